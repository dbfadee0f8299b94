/-! ROWS FOR THE LIBRARY: System.arraycopy inside one array of the world, Math.min -/
section JLB
variable {p : Program} {l : Launch} {e : Env} {R : Room} {s s0 : State} {m : MethodId} {args : Array Value} {below : List Frame} {meth : Method} {c : Code} {G : jb_Gt} {ad : Nat → Nat} {nL cells slots : Nat} {Q : State → Prop} {S : ja_S} {pc q : Nat} {L : List (Nat × Value)} {st : List Value} {cc : ByteArray} {own : String}
theorem jcp_12 (O : CallFix p m c cc nL s args ja_T "CashMachine$Line" ∧ jb_X s0 s G ad) {x y z : Int32} {a b k : Nat} (hx : x = nI a) (hy : y = nI b) (hz : z = nI k) (ha : a + k ≤ 8) (hb : b + k ≤ 8) (hR : 1 ≤ R.frames ∧ (st.map fun v => v.category).sum + (nativeFrameWords "java/lang/System" "arraycopy" 5 + 11) ≤ R.locals) (hd : decode cc pc = .ok (.invokestatic 19, 3)) (hp : pc + 3 = q)
    (kk : ja_V p l e R s m args below meth c (jb_W G ad) s0.heap.size nL cells slots Q (jb_sv S 27 (va_cpy (S 27) (S 27) a b k)) q L st) : ja_V p l e R s m args below meth c (jb_W G ad) s0.heap.size nL cells slots Q S pc L (.int z :: .int y :: .ref (ad 12) :: .int x :: .ref (ad 12) :: st) := by
  subst hp; subst hx; subst hy; subst hz
  intro ls H locs hL hP hS
  refine va_copyi O.1.1 O.1.2.1 (O.1.2.2.1.trans hL.1.1.symm) O.1.2.2.2.1 (O.1.2.2.2.2 _ jw_509) (O.1.2.2.2.2 _ jw_511) (O.1.2.2.2.2 _ jw_510) (O.1.2.2.2.2 _ jw_22) O.2.2.1 hP (O.2.2.2.1.va S) hS 12 12 0 0 rfl rfl rfl rfl rfl (nI_pos (by omega)) (nI_pos (by omega)) (nI_pos (by omega)) (by rw [nI_clamp (by omega), nI_clamp (by omega)]; exact ha) (by rw [nI_clamp (by omega), nI_clamp (by omega)]; exact hb) (fun _ _ => rfl) hR.1 hR.2 hd (fun H1 locs1 hP1 _ hS1 => ?_)
  rw [nI_clamp (show a < 2 ^ 31 by omega), nI_clamp (show b < 2 ^ 31 by omega), nI_clamp (show k < 2 ^ 31 by omega)] at hP1
  exact kk ls H1 locs1 hL (show va_P G.1 jb_cl (jb_en G ad _) H1 by rw [← jb_s27]; exact hP1) hS1
theorem jcp_17 (O : CallFix p m c cc nL s args ja_T "CashMachine$Reversals" ∧ jb_X s0 s G ad) {x y z : Int32} {a b k : Nat} (hx : x = nI a) (hy : y = nI b) (hz : z = nI k) (ha : a + k ≤ 40) (hb : b + k ≤ 40) (hR : 1 ≤ R.frames ∧ (st.map fun v => v.category).sum + (nativeFrameWords "java/lang/System" "arraycopy" 5 + 11) ≤ R.locals) (hd : decode cc pc = .ok (.invokestatic 22, 3)) (hp : pc + 3 = q)
    (kk : ja_V p l e R s m args below meth c (jb_W G ad) s0.heap.size nL cells slots Q (jb_sv S 30 (va_cpy (S 30) (S 30) a b k)) q L st) : ja_V p l e R s m args below meth c (jb_W G ad) s0.heap.size nL cells slots Q S pc L (.int z :: .int y :: .ref (ad 17) :: .int x :: .ref (ad 17) :: st) := by
  subst hp; subst hx; subst hy; subst hz
  intro ls H locs hL hP hS
  refine va_copyi O.1.1 O.1.2.1 (O.1.2.2.1.trans hL.1.1.symm) O.1.2.2.2.1 (O.1.2.2.2.2 _ jw_614) (O.1.2.2.2.2 _ jw_511) (O.1.2.2.2.2 _ jw_510) (O.1.2.2.2.2 _ jw_22) O.2.2.1 hP (O.2.2.2.1.va S) hS 17 17 0 0 rfl rfl rfl rfl rfl (nI_pos (by omega)) (nI_pos (by omega)) (nI_pos (by omega)) (by rw [nI_clamp (by omega), nI_clamp (by omega)]; exact ha) (by rw [nI_clamp (by omega), nI_clamp (by omega)]; exact hb) (fun _ _ => rfl) hR.1 hR.2 hd (fun H1 locs1 hP1 _ hS1 => ?_)
  rw [nI_clamp (show a < 2 ^ 31 by omega), nI_clamp (show b < 2 ^ 31 by omega), nI_clamp (show k < 2 ^ 31 by omega)] at hP1
  exact kk ls H1 locs1 hL (show va_P G.1 jb_cl (jb_en G ad _) H1 by rw [← jb_s30]; exact hP1) hS1
theorem jcp_18 (O : CallFix p m c cc nL s args ja_T "CashMachine$Reversals" ∧ jb_X s0 s G ad) {x y z : Int32} {a b k : Nat} (hx : x = nI a) (hy : y = nI b) (hz : z = nI k) (ha : a + k ≤ 40) (hb : b + k ≤ 40) (hR : 1 ≤ R.frames ∧ (st.map fun v => v.category).sum + (nativeFrameWords "java/lang/System" "arraycopy" 5 + 11) ≤ R.locals) (hd : decode cc pc = .ok (.invokestatic 22, 3)) (hp : pc + 3 = q)
    (kk : ja_V p l e R s m args below meth c (jb_W G ad) s0.heap.size nL cells slots Q (jb_sv S 31 (va_cpy (S 31) (S 31) a b k)) q L st) : ja_V p l e R s m args below meth c (jb_W G ad) s0.heap.size nL cells slots Q S pc L (.int z :: .int y :: .ref (ad 18) :: .int x :: .ref (ad 18) :: st) := by
  subst hp; subst hx; subst hy; subst hz
  intro ls H locs hL hP hS
  refine va_copyi O.1.1 O.1.2.1 (O.1.2.2.1.trans hL.1.1.symm) O.1.2.2.2.1 (O.1.2.2.2.2 _ jw_614) (O.1.2.2.2.2 _ jw_511) (O.1.2.2.2.2 _ jw_510) (O.1.2.2.2.2 _ jw_22) O.2.2.1 hP (O.2.2.2.1.va S) hS 18 18 0 0 rfl rfl rfl rfl rfl (nI_pos (by omega)) (nI_pos (by omega)) (nI_pos (by omega)) (by rw [nI_clamp (by omega), nI_clamp (by omega)]; exact ha) (by rw [nI_clamp (by omega), nI_clamp (by omega)]; exact hb) (fun _ _ => rfl) hR.1 hR.2 hd (fun H1 locs1 hP1 _ hS1 => ?_)
  rw [nI_clamp (show a < 2 ^ 31 by omega), nI_clamp (show b < 2 ^ 31 by omega), nI_clamp (show k < 2 ^ 31 by omega)] at hP1
  exact kk ls H1 locs1 hL (show va_P G.1 jb_cl (jb_en G ad _) H1 by rw [← jb_s31]; exact hP1) hS1
theorem jmin_X (O : CallFix p m c cc nL s args ja_T "CashMachine$Mix" ∧ jb_X s0 s G ad) {x y : Int32} (hR : 1 ≤ R.frames ∧ (st.map fun v => v.category).sum + 13 ≤ R.locals) (hz : cells ≤ R.cells ∧ slots ≤ R.slots) (hd : decode cc pc = .ok (.invokestatic 42, 3)) (hp : pc + 3 = q)
    (kk : ja_V p l e R s m args below meth c (jb_W G ad) s0.heap.size nL cells slots Q S q L (.int (if y < x then y else x) :: st)) : ja_V p l e R s m args below meth c (jb_W G ad) s0.heap.size nL cells slots Q S pc L (.int y :: .int x :: st) := by
  subst hp
  exact fun ls H locs hL hP hS => va_mmin O.1.1 O.1.2.1 (O.1.2.2.1.trans hL.1.1.symm) O.1.2.2.2.1 (O.1.2.2.2.2 _ jw_467) (O.1.2.2.2.2 _ jw_468) (O.1.2.2.2.2 _ jw_20) (O.1.2.2.2.2 _ jw_469) hR.1 hR.2 hz.1 hz.2 hd (kk ls H locs hL hP hS)
end JLB
