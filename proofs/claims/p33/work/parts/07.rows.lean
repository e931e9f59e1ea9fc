section GR
variable {Y : gEnv} {X : gCtx} {y : MethodName} {cc : ByteArray} {nL : Nat} {ret : Option FieldType} {rm : Room} {po : gPo} {px : gPx} {k n pc : Nat} {L : List (Nat × Value)} {st : List Value} {K N : Nat → Nat} {I : Nat → Nat → Int} {A : Nat → Int → Int} {R : Nat → Nat → Option Nat} {Q : Nat → Int → Option Nat}
theorem g_iconst {c : Int} (hd : decode cc pc = .ok (.iconst c, 1)) (kk : gJ Y X y cc nL ret rm po px k n (pc + 1) L (vi c :: st) K N I A R Q) : gJ Y X y cc nL ret rm po px k n pc L st K N I A R Q := fun hx H locs ls hW hS hl => lv_iconst hx.1 hx.2.1 hd rfl (kk hx H locs ls hW hS hl)
theorem g_bipush {c : Int} (hd : decode cc pc = .ok (.bipush c, 2)) (h : (Int8.ofInt c).toInt32 = Int32.ofInt c) (kk : gJ Y X y cc nL ret rm po px k n (pc + 2) L (vi c :: st) K N I A R Q) : gJ Y X y cc nL ret rm po px k n pc L st K N I A R Q := fun hx H locs ls hW hS hl => lv_bipush hx.1 hx.2.1 hd h (kk hx H locs ls hW hS hl)
theorem g_sipush {c : Int} (hd : decode cc pc = .ok (.sipush c, 3)) (h : (Int16.ofInt c).toInt32 = Int32.ofInt c) (kk : gJ Y X y cc nL ret rm po px k n (pc + 3) L (vi c :: st) K N I A R Q) : gJ Y X y cc nL ret rm po px k n pc L st K N I A R Q := fun hx H locs ls hW hS hl => lv_sipush hx.1 hx.2.1 hd h (kk hx H locs ls hW hS hl)
theorem g_lconst {j : Fin 2} {c : Int} (hd : decode cc pc = .ok (.lconst j, 1)) (h : Int64.ofNat (j : Nat) = Int64.ofInt c) (kk : gJ Y X y cc nL ret rm po px k n (pc + 1) L (vl c :: st) K N I A R Q) : gJ Y X y cc nL ret rm po px k n pc L st K N I A R Q := fun hx H locs ls hW hS hl => lv_lconst hx.1 hx.2.1 hd h (kk hx H locs ls hW hS hl)
theorem g_ldc {idx : Nat} {c : Int} {v : Int32} (hd : decode cc pc = .ok (.ldc idx, 2)) (hw : Cond.constant y.cls idx v ∈ lw_good) (h : v = Int32.ofInt c) (kk : gJ Y X y cc nL ret rm po px k n (pc + 2) L (vi c :: st) K N I A R Q) : gJ Y X y cc nL ret rm po px k n pc L st K N I A R Q := fun hx H locs ls hW hS hl => by subst h; exact lv_ldc hx.1 hx.2.1 hx.2.2.2.1 (hx.2.2.2.2.1 _ hw) hd (kk hx H locs ls hW hS hl)
theorem g_ldcw {idx : Nat} {c : Int} {v : Int32} (hd : decode cc pc = .ok (.ldc_w idx, 3)) (hw : Cond.constant y.cls idx v ∈ lw_good) (h : v = Int32.ofInt c) (kk : gJ Y X y cc nL ret rm po px k n (pc + 3) L (vi c :: st) K N I A R Q) : gJ Y X y cc nL ret rm po px k n pc L st K N I A R Q := fun hx H locs ls hW hS hl => by subst h; exact lv_ldcw hx.1 hx.2.1 hx.2.2.2.1 (hx.2.2.2.2.1 _ hw) hd (kk hx H locs ls hW hS hl)
theorem g_ldc2 {idx : Nat} {c : Int} {v : Int64} (hd : decode cc pc = .ok (.ldc2_w idx, 3)) (hw : Cond.constantLong y.cls idx v ∈ lw_good) (h : v = Int64.ofInt c) (kk : gJ Y X y cc nL ret rm po px k n (pc + 3) L (vl c :: st) K N I A R Q) : gJ Y X y cc nL ret rm po px k n pc L st K N I A R Q := fun hx H locs ls hW hS hl => by subst h; exact lv_ldc2 hx.1 hx.2.1 hx.2.2.2.1 (hx.2.2.2.2.1 _ hw) hd (kk hx H locs ls hW hS hl)
theorem lk_mem {L : List (Nat × Value)} {i : Nat} {v : Value} (h : List.lookup i L = some v) : (i, v) ∈ L := by
  induction L with
  | nil => simp at h
  | cons a t ih =>
    obtain ⟨a1, a2⟩ := a
    rw [List.lookup_cons] at h
    by_cases e : i == a1
    · rw [e] at h
      have e2 := eq_of_beq e
      cases Option.some.inj h
      subst e2
      exact List.mem_cons_self
    · simp only [e] at h
      exact List.mem_cons_of_mem _ (ih h)
theorem lk_has {ls : Array Slot} {nL : Nat} {L : List (Nat × Value)} {i : Nat} {v : Value} (hl : lv_has ls nL L) (h : List.lookup i L = some v) : ls[i]? = some (.val v) := hl.2.2 (i, v) (lk_mem h)
abbrev g_s1 (i : Nat) (v : Value) (L : List (Nat × Value)) : List (Nat × Value) := (i, v) :: L.filter (fun q => !(q.1 == i) && !(q.1 + 1 == i && q.2.category == 2))
abbrev g_s2 (i : Nat) (v : Value) (L : List (Nat × Value)) : List (Nat × Value) := (i, v) :: L.filter (fun q => !(q.1 == i) && (!(q.1 == i + 1) && !(q.1 + 1 == i && q.2.category == 2)))
def g_all (L : List (Nat × Value)) : List (Nat × Value) → Prop
  | [] => True
  | q :: t => List.lookup q.1 L = some q.2 ∧ g_all L t
theorem g_all_mem {L L' : List (Nat × Value)} (h : g_all L L') : ∀ q ∈ L', (q.1, q.2) ∈ L := by
  induction L' with
  | nil => intro q hq; cases hq
  | cons a t ih =>
    intro q hq
    rcases List.mem_cons.mp hq with rfl | hq
    · exact lk_mem h.1
    · exact ih h.2 q hq
theorem lv_all {ls : Array Slot} {nL : Nat} {L L' : List (Nat × Value)} (hl : lv_has ls nL L) (h : g_all L L') : lv_has ls nL L' := ⟨hl.1, hl.2.1, fun q hq => hl.2.2 _ (g_all_mem h q hq)⟩
theorem g_locs {L' : List (Nat × Value)} (h : g_all L L') (kk : gJ Y X y cc nL ret rm po px k n pc L' st K N I A R Q) : gJ Y X y cc nL ret rm po px k n pc L st K N I A R Q := fun hx H locs ls hW hS hl => kk hx H locs ls hW hS (lv_all hl h)
theorem g_iload_n {j : Fin 4} {i : Nat} {z : Int} (hd : decode cc pc = .ok (.iload_n j, 1)) (hi : (j : Nat) = i) (hz : List.lookup i L = some (vi z)) (kk : gJ Y X y cc nL ret rm po px k n (pc + 1) L (vi z :: st) K N I A R Q) : gJ Y X y cc nL ret rm po px k n pc L st K N I A R Q := fun hx H locs ls hW hS hl => lv_iload_n hx.1 hx.2.1 hd hi (lk_has hl hz) (kk hx H locs ls hW hS hl)
theorem g_iload {i : Nat} {z : Int} (hd : decode cc pc = .ok (.iload i, 2)) (hz : List.lookup i L = some (vi z)) (kk : gJ Y X y cc nL ret rm po px k n (pc + 2) L (vi z :: st) K N I A R Q) : gJ Y X y cc nL ret rm po px k n pc L st K N I A R Q := fun hx H locs ls hW hS hl => lv_iload hx.1 hx.2.1 hd (lk_has hl hz) (kk hx H locs ls hW hS hl)
theorem g_lload_n {j : Fin 4} {i : Nat} {z : Int} (hd : decode cc pc = .ok (.lload_n j, 1)) (hi : (j : Nat) = i) (hz : List.lookup i L = some (vl z)) (kk : gJ Y X y cc nL ret rm po px k n (pc + 1) L (vl z :: st) K N I A R Q) : gJ Y X y cc nL ret rm po px k n pc L st K N I A R Q := fun hx H locs ls hW hS hl => lv_lload_n hx.1 hx.2.1 hd hi (lk_has hl hz) (kk hx H locs ls hW hS hl)
theorem g_lload {i : Nat} {z : Int} (hd : decode cc pc = .ok (.lload i, 2)) (hz : List.lookup i L = some (vl z)) (kk : gJ Y X y cc nL ret rm po px k n (pc + 2) L (vl z :: st) K N I A R Q) : gJ Y X y cc nL ret rm po px k n pc L st K N I A R Q := fun hx H locs ls hW hS hl => lv_lload hx.1 hx.2.1 hd (lk_has hl hz) (kk hx H locs ls hW hS hl)
theorem g_aload_n {j : Fin 4} {i : Nat} {z : Nat} (hd : decode cc pc = .ok (.aload_n j, 1)) (hi : (j : Nat) = i) (hz : List.lookup i L = some (Value.ref z)) (kk : gJ Y X y cc nL ret rm po px k n (pc + 1) L (Value.ref z :: st) K N I A R Q) : gJ Y X y cc nL ret rm po px k n pc L st K N I A R Q := fun hx H locs ls hW hS hl => lv_aload_n hx.1 hx.2.1 hd hi (lk_has hl hz) (kk hx H locs ls hW hS hl)
theorem g_aload {i : Nat} {z : Nat} (hd : decode cc pc = .ok (.aload i, 2)) (hz : List.lookup i L = some (Value.ref z)) (kk : gJ Y X y cc nL ret rm po px k n (pc + 2) L (Value.ref z :: st) K N I A R Q) : gJ Y X y cc nL ret rm po px k n pc L st K N I A R Q := fun hx H locs ls hW hS hl => lv_aload hx.1 hx.2.1 hd (lk_has hl hz) (kk hx H locs ls hW hS hl)
theorem g_istore_n {j : Fin 4} {i : Nat} {z : Int} (hd : decode cc pc = .ok (.istore_n j, 1)) (hi : (j : Nat) = i) (hn : i < nL) (kk : gJ Y X y cc nL ret rm po px k n (pc + 1) (g_s1 i (vi z) L) st K N I A R Q) : gJ Y X y cc nL ret rm po px k n pc L (vi z :: st) K N I A R Q := fun hx H locs ls hW hS hl => lv_istore_n hx.1 hx.2.1 hd hi hl hn rfl (fun ls' hl' => kk hx H locs ls' hW hS hl')
theorem g_istore {i : Nat} {z : Int} (hd : decode cc pc = .ok (.istore i, 2)) (hn : i < nL) (kk : gJ Y X y cc nL ret rm po px k n (pc + 2) (g_s1 i (vi z) L) st K N I A R Q) : gJ Y X y cc nL ret rm po px k n pc L (vi z :: st) K N I A R Q := fun hx H locs ls hW hS hl => lv_istore hx.1 hx.2.1 hd hl hn rfl (fun ls' hl' => kk hx H locs ls' hW hS hl')
theorem g_lstore_n {j : Fin 4} {i : Nat} {z : Int} (hd : decode cc pc = .ok (.lstore_n j, 1)) (hi : (j : Nat) = i) (hn : i + 1 < nL) (kk : gJ Y X y cc nL ret rm po px k n (pc + 1) (g_s2 i (vl z) L) st K N I A R Q) : gJ Y X y cc nL ret rm po px k n pc L (vl z :: st) K N I A R Q := fun hx H locs ls hW hS hl => lv_lstore_n hx.1 hx.2.1 hd hi hl hn rfl (fun ls' hl' => kk hx H locs ls' hW hS hl')
theorem g_lstore {i : Nat} {z : Int} (hd : decode cc pc = .ok (.lstore i, 2)) (hn : i + 1 < nL) (kk : gJ Y X y cc nL ret rm po px k n (pc + 2) (g_s2 i (vl z) L) st K N I A R Q) : gJ Y X y cc nL ret rm po px k n pc L (vl z :: st) K N I A R Q := fun hx H locs ls hW hS hl => lv_lstore hx.1 hx.2.1 hd hl hn rfl (fun ls' hl' => kk hx H locs ls' hW hS hl')
theorem g_astore_n {j : Fin 4} {i : Nat} {z : Nat} (hd : decode cc pc = .ok (.astore_n j, 1)) (hi : (j : Nat) = i) (hn : i < nL) (kk : gJ Y X y cc nL ret rm po px k n (pc + 1) (g_s1 i (Value.ref z) L) st K N I A R Q) : gJ Y X y cc nL ret rm po px k n pc L (Value.ref z :: st) K N I A R Q := fun hx H locs ls hW hS hl => lv_astore_n hx.1 hx.2.1 hd hi hl hn rfl (fun ls' hl' => kk hx H locs ls' hW hS hl')
theorem g_astore {i : Nat} {z : Nat} (hd : decode cc pc = .ok (.astore i, 2)) (hn : i < nL) (kk : gJ Y X y cc nL ret rm po px k n (pc + 2) (g_s1 i (Value.ref z) L) st K N I A R Q) : gJ Y X y cc nL ret rm po px k n pc L (Value.ref z :: st) K N I A R Q := fun hx H locs ls hW hS hl => lv_astore hx.1 hx.2.1 hd hl hn rfl (fun ls' hl' => kk hx H locs ls' hW hS hl')
theorem g_iinc {i : Nat} {c z : Int} (hd : decode cc pc = .ok (.iinc i c, 3)) (hz : List.lookup i L = some (vi z)) (hn : i < nL) (kk : gJ Y X y cc nL ret rm po px k n (pc + 3) (g_s1 i (vi (z + c)) L) st K N I A R Q) : gJ Y X y cc nL ret rm po px k n pc L st K N I A R Q := by
  intro hx H locs ls hW hS hl
  obtain ⟨j, hj⟩ := List.getElem?_of_mem (lk_mem hz)
  exact lv_iinc hx.1 hx.2.1 hd hl hj (i32_add z c) hn rfl (fun ls' hl' => kk hx H locs ls' hW hS hl')
theorem g_iadd {a b : Int} (hd : decode cc pc = .ok (.iadd, 1)) (kk : gJ Y X y cc nL ret rm po px k n (pc + 1) L (vi (a + b) :: st) K N I A R Q) : gJ Y X y cc nL ret rm po px k n pc L (vi b :: vi a :: st) K N I A R Q := by
  intro hx H locs ls hW hS hl
  refine lv_iadd hx.1 hx.2.1 hd ?_
  rw [i32_add]
  exact kk hx H locs ls hW hS hl
theorem g_ladd {a b : Int} (hd : decode cc pc = .ok (.ladd, 1)) (kk : gJ Y X y cc nL ret rm po px k n (pc + 1) L (vl (a + b) :: st) K N I A R Q) : gJ Y X y cc nL ret rm po px k n pc L (vl b :: vl a :: st) K N I A R Q := by
  intro hx H locs ls hW hS hl
  refine lv_ladd hx.1 hx.2.1 hd ?_
  rw [i64_add]
  exact kk hx H locs ls hW hS hl
theorem g_isub {a b : Int} (hd : decode cc pc = .ok (.isub, 1)) (kk : gJ Y X y cc nL ret rm po px k n (pc + 1) L (vi (a - b) :: st) K N I A R Q) : gJ Y X y cc nL ret rm po px k n pc L (vi b :: vi a :: st) K N I A R Q := by
  intro hx H locs ls hW hS hl
  refine lv_isub hx.1 hx.2.1 hd ?_
  rw [i32_sub]
  exact kk hx H locs ls hW hS hl
theorem g_lsub {a b : Int} (hd : decode cc pc = .ok (.lsub, 1)) (kk : gJ Y X y cc nL ret rm po px k n (pc + 1) L (vl (a - b) :: st) K N I A R Q) : gJ Y X y cc nL ret rm po px k n pc L (vl b :: vl a :: st) K N I A R Q := by
  intro hx H locs ls hW hS hl
  refine lv_lsub hx.1 hx.2.1 hd ?_
  rw [i64_sub]
  exact kk hx H locs ls hW hS hl
theorem g_imul {a b : Int} (hd : decode cc pc = .ok (.imul, 1)) (kk : gJ Y X y cc nL ret rm po px k n (pc + 1) L (vi (a * b) :: st) K N I A R Q) : gJ Y X y cc nL ret rm po px k n pc L (vi b :: vi a :: st) K N I A R Q := by
  intro hx H locs ls hW hS hl
  refine lv_imul hx.1 hx.2.1 hd ?_
  rw [i32_mul]
  exact kk hx H locs ls hW hS hl
theorem g_lmul {a b : Int} (hd : decode cc pc = .ok (.lmul, 1)) (kk : gJ Y X y cc nL ret rm po px k n (pc + 1) L (vl (a * b) :: st) K N I A R Q) : gJ Y X y cc nL ret rm po px k n pc L (vl b :: vl a :: st) K N I A R Q := by
  intro hx H locs ls hW hS hl
  refine lv_lmul hx.1 hx.2.1 hd ?_
  rw [i64_mul]
  exact kk hx H locs ls hW hS hl
theorem g_idiv {a b : Int} (hd : decode cc pc = .ok (.idiv, 1)) (ha : -2147483648 ≤ a ∧ a ≤ 2147483647) (hb : -2147483648 ≤ b ∧ b ≤ 2147483647) (h0 : b ≠ 0) (kk : gJ Y X y cc nL ret rm po px k n (pc + 1) L (vi (a.tdiv b) :: st) K N I A R Q) : gJ Y X y cc nL ret rm po px k n pc L (vi b :: vi a :: st) K N I A R Q := by
  intro hx H locs ls hW hS hl
  refine lv_idiv hx.1 hx.2.1 hd (fun h => h0 ?_) ?_
  · rw [show (0 : Int32) = Int32.ofInt 0 by decide, i32_eq hb (by omega)] at h
    exact h
  · rw [i32_div ha hb]
    exact kk hx H locs ls hW hS hl
theorem g_ldiv {a b : Int} (hd : decode cc pc = .ok (.ldiv, 1)) (ha : -9223372036854775808 ≤ a ∧ a ≤ 9223372036854775807) (hb : -9223372036854775808 ≤ b ∧ b ≤ 9223372036854775807) (h0 : b ≠ 0) (kk : gJ Y X y cc nL ret rm po px k n (pc + 1) L (vl (a.tdiv b) :: st) K N I A R Q) : gJ Y X y cc nL ret rm po px k n pc L (vl b :: vl a :: st) K N I A R Q := by
  intro hx H locs ls hW hS hl
  refine lv_ldiv hx.1 hx.2.1 hd (fun h => h0 ?_) ?_
  · rw [show (0 : Int64) = Int64.ofInt 0 by decide, i64_eq hb (by omega)] at h
    exact h
  · rw [i64_div ha hb]
    exact kk hx H locs ls hW hS hl
theorem g_irem {a b : Int} (hd : decode cc pc = .ok (.irem, 1)) (ha : -2147483648 ≤ a ∧ a ≤ 2147483647) (hb : -2147483648 ≤ b ∧ b ≤ 2147483647) (h0 : b ≠ 0) (kk : gJ Y X y cc nL ret rm po px k n (pc + 1) L (vi (a.tmod b) :: st) K N I A R Q) : gJ Y X y cc nL ret rm po px k n pc L (vi b :: vi a :: st) K N I A R Q := by
  intro hx H locs ls hW hS hl
  refine lv_irem hx.1 hx.2.1 hd (fun h => h0 ?_) ?_
  · rw [i32_0, i32_eq hb (by omega)] at h
    exact h
  · rw [i32_div ha hb, i32_mul, i32_sub, show a - a.tdiv b * b = a.tmod b by rw [Int.tmod_def, Int.mul_comm]]
    exact kk hx H locs ls hW hS hl
theorem g_i2l {z : Int} (hd : decode cc pc = .ok (.i2l, 1)) (h : -2147483648 ≤ z ∧ z ≤ 2147483647) (kk : gJ Y X y cc nL ret rm po px k n (pc + 1) L (vl z :: st) K N I A R Q) : gJ Y X y cc nL ret rm po px k n pc L (vi z :: st) K N I A R Q := fun hx H locs ls hW hS hl => lv_i2l hx.1 hx.2.1 hd (i32_i64 h) (kk hx H locs ls hW hS hl)
theorem g_l2i {z : Int} (hd : decode cc pc = .ok (.l2i, 1)) (kk : gJ Y X y cc nL ret rm po px k n (pc + 1) L (vi z :: st) K N I A R Q) : gJ Y X y cc nL ret rm po px k n pc L (vl z :: st) K N I A R Q := fun hx H locs ls hW hS hl => lv_l2i hx.1 hx.2.1 hd Int64.toInt32_ofInt (kk hx H locs ls hW hS hl)
theorem g_dup {v : Value} (hd : decode cc pc = .ok (.dup, 1)) (hv : v.category = 1) (kk : gJ Y X y cc nL ret rm po px k n (pc + 1) L (v :: v :: st) K N I A R Q) : gJ Y X y cc nL ret rm po px k n pc L (v :: st) K N I A R Q := fun hx H locs ls hW hS hl => lv_dup hx.1 hx.2.1 hd hv (kk hx H locs ls hW hS hl)
theorem g_dup2 {v v2 : Value} (hd : decode cc pc = .ok (.dup2, 1)) (hv : v.category = 1) (hv2 : v2.category = 1) (kk : gJ Y X y cc nL ret rm po px k n (pc + 1) L (v :: v2 :: v :: v2 :: st) K N I A R Q) : gJ Y X y cc nL ret rm po px k n pc L (v :: v2 :: st) K N I A R Q := fun hx H locs ls hW hS hl => lv_dup2_11 hx.1 hx.2.1 hd hv hv2 (kk hx H locs ls hW hS hl)
theorem g_pop {v : Value} (hd : decode cc pc = .ok (.pop, 1)) (hv : v.category = 1) (kk : gJ Y X y cc nL ret rm po px k n (pc + 1) L st K N I A R Q) : gJ Y X y cc nL ret rm po px k n pc L (v :: st) K N I A R Q := fun hx H locs ls hW hS hl => lv_pop hx.1 hx.2.1 hd hv (kk hx H locs ls hW hS hl)
theorem g_goto {off : Int} {tgt : Nat} (hd : decode cc pc = .ok (.goto off, 3)) (ht : (pc : Int) + off = (tgt : Int)) (kk : gJ Y X y cc nL ret rm po px k n tgt L st K N I A R Q) : gJ Y X y cc nL ret rm po px k n pc L st K N I A R Q := fun hx H locs ls hW hS hl => lv_goto hx.1 hx.2.1 hd ht (kk hx H locs ls hW hS hl)
theorem g_icmp_lt {z w off : Int} {tgt : Nat} (hd : decode cc pc = .ok (.if_icmp .lt off, 3)) (ht : (pc : Int) + off = (tgt : Int)) (hz : -2147483648 ≤ z ∧ z ≤ 2147483647) (hw : -2147483648 ≤ w ∧ w ≤ 2147483647) (kt : z < w → gJ Y X y cc nL ret rm po px k n tgt L st K N I A R Q) (kf : w ≤ z → gJ Y X y cc nL ret rm po px k n (pc + 3) L st K N I A R Q) : gJ Y X y cc nL ret rm po px k n pc L (vi w :: vi z :: st) K N I A R Q := fun hx H locs ls hW hS hl => lv_icmp_lt hx.1 hx.2.1 hd ht (fun h => kt ((i32_lt hz hw).mp h) hx H locs ls hW hS hl) (fun h => kf (Int.not_lt.mp (fun e => h ((i32_lt hz hw).mpr e))) hx H locs ls hW hS hl)
theorem g_if_lt {z off : Int} {tgt : Nat} (hd : decode cc pc = .ok (.ifCond .lt off, 3)) (ht : (pc : Int) + off = (tgt : Int)) (hz : -2147483648 ≤ z ∧ z ≤ 2147483647) (kt : z < 0 → gJ Y X y cc nL ret rm po px k n tgt L st K N I A R Q) (kf : 0 ≤ z → gJ Y X y cc nL ret rm po px k n (pc + 3) L st K N I A R Q) : gJ Y X y cc nL ret rm po px k n pc L (vi z :: st) K N I A R Q := by
  have hw0 : -2147483648 ≤ (0 : Int) ∧ (0 : Int) ≤ 2147483647 := by omega
  intro hx H locs ls hW hS hl
  refine lv_if_lt hx.1 hx.2.1 hd ht ?_ ?_
  · rw [i32_0]; exact (fun h => kt ((i32_lt hz hw0).mp h) hx H locs ls hW hS hl)
  · rw [i32_0]; exact (fun h => kf (Int.not_lt.mp (fun e => h ((i32_lt hz hw0).mpr e))) hx H locs ls hW hS hl)
theorem g_icmp_ge {z w off : Int} {tgt : Nat} (hd : decode cc pc = .ok (.if_icmp .ge off, 3)) (ht : (pc : Int) + off = (tgt : Int)) (hz : -2147483648 ≤ z ∧ z ≤ 2147483647) (hw : -2147483648 ≤ w ∧ w ≤ 2147483647) (kt : w ≤ z → gJ Y X y cc nL ret rm po px k n tgt L st K N I A R Q) (kf : z < w → gJ Y X y cc nL ret rm po px k n (pc + 3) L st K N I A R Q) : gJ Y X y cc nL ret rm po px k n pc L (vi w :: vi z :: st) K N I A R Q := fun hx H locs ls hW hS hl => lv_icmp_ge hx.1 hx.2.1 hd ht (fun h => kt ((i32_le hw hz).mp h) hx H locs ls hW hS hl) (fun h => kf (Int.not_le.mp (fun e => h ((i32_le hw hz).mpr e))) hx H locs ls hW hS hl)
theorem g_if_ge {z off : Int} {tgt : Nat} (hd : decode cc pc = .ok (.ifCond .ge off, 3)) (ht : (pc : Int) + off = (tgt : Int)) (hz : -2147483648 ≤ z ∧ z ≤ 2147483647) (kt : 0 ≤ z → gJ Y X y cc nL ret rm po px k n tgt L st K N I A R Q) (kf : z < 0 → gJ Y X y cc nL ret rm po px k n (pc + 3) L st K N I A R Q) : gJ Y X y cc nL ret rm po px k n pc L (vi z :: st) K N I A R Q := by
  have hw0 : -2147483648 ≤ (0 : Int) ∧ (0 : Int) ≤ 2147483647 := by omega
  intro hx H locs ls hW hS hl
  refine lv_if_ge hx.1 hx.2.1 hd ht ?_ ?_
  · rw [i32_0]; exact (fun h => kt ((i32_le hw0 hz).mp h) hx H locs ls hW hS hl)
  · rw [i32_0]; exact (fun h => kf (Int.not_le.mp (fun e => h ((i32_le hw0 hz).mpr e))) hx H locs ls hW hS hl)
theorem g_icmp_gt {z w off : Int} {tgt : Nat} (hd : decode cc pc = .ok (.if_icmp .gt off, 3)) (ht : (pc : Int) + off = (tgt : Int)) (hz : -2147483648 ≤ z ∧ z ≤ 2147483647) (hw : -2147483648 ≤ w ∧ w ≤ 2147483647) (kt : w < z → gJ Y X y cc nL ret rm po px k n tgt L st K N I A R Q) (kf : z ≤ w → gJ Y X y cc nL ret rm po px k n (pc + 3) L st K N I A R Q) : gJ Y X y cc nL ret rm po px k n pc L (vi w :: vi z :: st) K N I A R Q := fun hx H locs ls hW hS hl => lv_icmp_gt hx.1 hx.2.1 hd ht (fun h => kt ((i32_lt hw hz).mp h) hx H locs ls hW hS hl) (fun h => kf (Int.not_lt.mp (fun e => h ((i32_lt hw hz).mpr e))) hx H locs ls hW hS hl)
theorem g_if_gt {z off : Int} {tgt : Nat} (hd : decode cc pc = .ok (.ifCond .gt off, 3)) (ht : (pc : Int) + off = (tgt : Int)) (hz : -2147483648 ≤ z ∧ z ≤ 2147483647) (kt : 0 < z → gJ Y X y cc nL ret rm po px k n tgt L st K N I A R Q) (kf : z ≤ 0 → gJ Y X y cc nL ret rm po px k n (pc + 3) L st K N I A R Q) : gJ Y X y cc nL ret rm po px k n pc L (vi z :: st) K N I A R Q := by
  have hw0 : -2147483648 ≤ (0 : Int) ∧ (0 : Int) ≤ 2147483647 := by omega
  intro hx H locs ls hW hS hl
  refine lv_if_gt hx.1 hx.2.1 hd ht ?_ ?_
  · rw [i32_0]; exact (fun h => kt ((i32_lt hw0 hz).mp h) hx H locs ls hW hS hl)
  · rw [i32_0]; exact (fun h => kf (Int.not_lt.mp (fun e => h ((i32_lt hw0 hz).mpr e))) hx H locs ls hW hS hl)
theorem g_icmp_le {z w off : Int} {tgt : Nat} (hd : decode cc pc = .ok (.if_icmp .le off, 3)) (ht : (pc : Int) + off = (tgt : Int)) (hz : -2147483648 ≤ z ∧ z ≤ 2147483647) (hw : -2147483648 ≤ w ∧ w ≤ 2147483647) (kt : z ≤ w → gJ Y X y cc nL ret rm po px k n tgt L st K N I A R Q) (kf : w < z → gJ Y X y cc nL ret rm po px k n (pc + 3) L st K N I A R Q) : gJ Y X y cc nL ret rm po px k n pc L (vi w :: vi z :: st) K N I A R Q := fun hx H locs ls hW hS hl => lv_icmp_le hx.1 hx.2.1 hd ht (fun h => kt ((i32_le hz hw).mp h) hx H locs ls hW hS hl) (fun h => kf (Int.not_le.mp (fun e => h ((i32_le hz hw).mpr e))) hx H locs ls hW hS hl)
theorem g_if_le {z off : Int} {tgt : Nat} (hd : decode cc pc = .ok (.ifCond .le off, 3)) (ht : (pc : Int) + off = (tgt : Int)) (hz : -2147483648 ≤ z ∧ z ≤ 2147483647) (kt : z ≤ 0 → gJ Y X y cc nL ret rm po px k n tgt L st K N I A R Q) (kf : 0 < z → gJ Y X y cc nL ret rm po px k n (pc + 3) L st K N I A R Q) : gJ Y X y cc nL ret rm po px k n pc L (vi z :: st) K N I A R Q := by
  have hw0 : -2147483648 ≤ (0 : Int) ∧ (0 : Int) ≤ 2147483647 := by omega
  intro hx H locs ls hW hS hl
  refine lv_if_le hx.1 hx.2.1 hd ht ?_ ?_
  · rw [i32_0]; exact (fun h => kt ((i32_le hz hw0).mp h) hx H locs ls hW hS hl)
  · rw [i32_0]; exact (fun h => kf (Int.not_le.mp (fun e => h ((i32_le hz hw0).mpr e))) hx H locs ls hW hS hl)
theorem g_icmp_eq {z w off : Int} {tgt : Nat} (hd : decode cc pc = .ok (.if_icmp .eq off, 3)) (ht : (pc : Int) + off = (tgt : Int)) (hz : -2147483648 ≤ z ∧ z ≤ 2147483647) (hw : -2147483648 ≤ w ∧ w ≤ 2147483647) (kt : z = w → gJ Y X y cc nL ret rm po px k n tgt L st K N I A R Q) (kf : ¬ z = w → gJ Y X y cc nL ret rm po px k n (pc + 3) L st K N I A R Q) : gJ Y X y cc nL ret rm po px k n pc L (vi w :: vi z :: st) K N I A R Q := fun hx H locs ls hW hS hl => lv_icmp_eq hx.1 hx.2.1 hd ht (fun h => kt ((i32_eq hz hw).mp h) hx H locs ls hW hS hl) (fun h => kf (id (fun e => h ((i32_eq hz hw).mpr e))) hx H locs ls hW hS hl)
theorem g_if_eq {z off : Int} {tgt : Nat} (hd : decode cc pc = .ok (.ifCond .eq off, 3)) (ht : (pc : Int) + off = (tgt : Int)) (hz : -2147483648 ≤ z ∧ z ≤ 2147483647) (kt : z = 0 → gJ Y X y cc nL ret rm po px k n tgt L st K N I A R Q) (kf : ¬ z = 0 → gJ Y X y cc nL ret rm po px k n (pc + 3) L st K N I A R Q) : gJ Y X y cc nL ret rm po px k n pc L (vi z :: st) K N I A R Q := by
  have hw0 : -2147483648 ≤ (0 : Int) ∧ (0 : Int) ≤ 2147483647 := by omega
  intro hx H locs ls hW hS hl
  refine lv_if_eq hx.1 hx.2.1 hd ht ?_ ?_
  · rw [i32_0]; exact (fun h => kt ((i32_eq hz hw0).mp h) hx H locs ls hW hS hl)
  · rw [i32_0]; exact (fun h => kf (id (fun e => h ((i32_eq hz hw0).mpr e))) hx H locs ls hW hS hl)
theorem g_icmp_ne {z w off : Int} {tgt : Nat} (hd : decode cc pc = .ok (.if_icmp .ne off, 3)) (ht : (pc : Int) + off = (tgt : Int)) (hz : -2147483648 ≤ z ∧ z ≤ 2147483647) (hw : -2147483648 ≤ w ∧ w ≤ 2147483647) (kt : ¬ z = w → gJ Y X y cc nL ret rm po px k n tgt L st K N I A R Q) (kf : z = w → gJ Y X y cc nL ret rm po px k n (pc + 3) L st K N I A R Q) : gJ Y X y cc nL ret rm po px k n pc L (vi w :: vi z :: st) K N I A R Q := fun hx H locs ls hW hS hl => lv_icmp_ne hx.1 hx.2.1 hd ht (fun h => kt (fun e => h ((i32_eq hz hw).mpr e)) hx H locs ls hW hS hl) (fun h => kf ((i32_eq hz hw).mp h) hx H locs ls hW hS hl)
theorem g_if_ne {z off : Int} {tgt : Nat} (hd : decode cc pc = .ok (.ifCond .ne off, 3)) (ht : (pc : Int) + off = (tgt : Int)) (hz : -2147483648 ≤ z ∧ z ≤ 2147483647) (kt : ¬ z = 0 → gJ Y X y cc nL ret rm po px k n tgt L st K N I A R Q) (kf : z = 0 → gJ Y X y cc nL ret rm po px k n (pc + 3) L st K N I A R Q) : gJ Y X y cc nL ret rm po px k n pc L (vi z :: st) K N I A R Q := by
  have hw0 : -2147483648 ≤ (0 : Int) ∧ (0 : Int) ≤ 2147483647 := by omega
  intro hx H locs ls hW hS hl
  refine lv_if_ne hx.1 hx.2.1 hd ht ?_ ?_
  · rw [i32_0]; exact (fun h => kt (fun e => h ((i32_eq hz hw0).mpr e)) hx H locs ls hW hS hl)
  · rw [i32_0]; exact (fun h => kf ((i32_eq hz hw0).mp h) hx H locs ls hW hS hl)
theorem g_lcmp_lt {z w off : Int} {tgt : Nat} (hd : decode cc pc = .ok (.lcmp, 1)) (hd2 : decode cc (pc + 1) = .ok (.ifCond .lt off, 3)) (ht : ((pc + 1 : Nat) : Int) + off = (tgt : Int)) (hz : -9223372036854775808 ≤ z ∧ z ≤ 9223372036854775807) (hw : -9223372036854775808 ≤ w ∧ w ≤ 9223372036854775807) (kt : z < w → gJ Y X y cc nL ret rm po px k n tgt L st K N I A R Q) (kf : w ≤ z → gJ Y X y cc nL ret rm po px k n (pc + 4) L st K N I A R Q) : gJ Y X y cc nL ret rm po px k n pc L (vl w :: vl z :: st) K N I A R Q := by
  intro hx H locs ls hW hS hl
  refine W.lcmp hx.1 hx.2.1 hd ?_
  rw [lg_cmp_ofInt hz hw]
  refine g_if_lt (pc := pc + 1) hd2 ht ?_ (fun h => kt ?_) (fun h => kf ?_) hx H locs ls hW hS hl
  · split <;> (try split) <;> omega
  all_goals (revert h; split <;> (try split) <;> omega)
theorem g_lcmp_ge {z w off : Int} {tgt : Nat} (hd : decode cc pc = .ok (.lcmp, 1)) (hd2 : decode cc (pc + 1) = .ok (.ifCond .ge off, 3)) (ht : ((pc + 1 : Nat) : Int) + off = (tgt : Int)) (hz : -9223372036854775808 ≤ z ∧ z ≤ 9223372036854775807) (hw : -9223372036854775808 ≤ w ∧ w ≤ 9223372036854775807) (kt : w ≤ z → gJ Y X y cc nL ret rm po px k n tgt L st K N I A R Q) (kf : z < w → gJ Y X y cc nL ret rm po px k n (pc + 4) L st K N I A R Q) : gJ Y X y cc nL ret rm po px k n pc L (vl w :: vl z :: st) K N I A R Q := by
  intro hx H locs ls hW hS hl
  refine W.lcmp hx.1 hx.2.1 hd ?_
  rw [lg_cmp_ofInt hz hw]
  refine g_if_ge (pc := pc + 1) hd2 ht ?_ (fun h => kt ?_) (fun h => kf ?_) hx H locs ls hW hS hl
  · split <;> (try split) <;> omega
  all_goals (revert h; split <;> (try split) <;> omega)
theorem g_lcmp_gt {z w off : Int} {tgt : Nat} (hd : decode cc pc = .ok (.lcmp, 1)) (hd2 : decode cc (pc + 1) = .ok (.ifCond .gt off, 3)) (ht : ((pc + 1 : Nat) : Int) + off = (tgt : Int)) (hz : -9223372036854775808 ≤ z ∧ z ≤ 9223372036854775807) (hw : -9223372036854775808 ≤ w ∧ w ≤ 9223372036854775807) (kt : w < z → gJ Y X y cc nL ret rm po px k n tgt L st K N I A R Q) (kf : z ≤ w → gJ Y X y cc nL ret rm po px k n (pc + 4) L st K N I A R Q) : gJ Y X y cc nL ret rm po px k n pc L (vl w :: vl z :: st) K N I A R Q := by
  intro hx H locs ls hW hS hl
  refine W.lcmp hx.1 hx.2.1 hd ?_
  rw [lg_cmp_ofInt hz hw]
  refine g_if_gt (pc := pc + 1) hd2 ht ?_ (fun h => kt ?_) (fun h => kf ?_) hx H locs ls hW hS hl
  · split <;> (try split) <;> omega
  all_goals (revert h; split <;> (try split) <;> omega)
theorem g_lcmp_le {z w off : Int} {tgt : Nat} (hd : decode cc pc = .ok (.lcmp, 1)) (hd2 : decode cc (pc + 1) = .ok (.ifCond .le off, 3)) (ht : ((pc + 1 : Nat) : Int) + off = (tgt : Int)) (hz : -9223372036854775808 ≤ z ∧ z ≤ 9223372036854775807) (hw : -9223372036854775808 ≤ w ∧ w ≤ 9223372036854775807) (kt : z ≤ w → gJ Y X y cc nL ret rm po px k n tgt L st K N I A R Q) (kf : w < z → gJ Y X y cc nL ret rm po px k n (pc + 4) L st K N I A R Q) : gJ Y X y cc nL ret rm po px k n pc L (vl w :: vl z :: st) K N I A R Q := by
  intro hx H locs ls hW hS hl
  refine W.lcmp hx.1 hx.2.1 hd ?_
  rw [lg_cmp_ofInt hz hw]
  refine g_if_le (pc := pc + 1) hd2 ht ?_ (fun h => kt ?_) (fun h => kf ?_) hx H locs ls hW hS hl
  · split <;> (try split) <;> omega
  all_goals (revert h; split <;> (try split) <;> omega)
theorem g_lcmp_eq {z w off : Int} {tgt : Nat} (hd : decode cc pc = .ok (.lcmp, 1)) (hd2 : decode cc (pc + 1) = .ok (.ifCond .eq off, 3)) (ht : ((pc + 1 : Nat) : Int) + off = (tgt : Int)) (hz : -9223372036854775808 ≤ z ∧ z ≤ 9223372036854775807) (hw : -9223372036854775808 ≤ w ∧ w ≤ 9223372036854775807) (kt : z = w → gJ Y X y cc nL ret rm po px k n tgt L st K N I A R Q) (kf : ¬ z = w → gJ Y X y cc nL ret rm po px k n (pc + 4) L st K N I A R Q) : gJ Y X y cc nL ret rm po px k n pc L (vl w :: vl z :: st) K N I A R Q := by
  intro hx H locs ls hW hS hl
  refine W.lcmp hx.1 hx.2.1 hd ?_
  rw [lg_cmp_ofInt hz hw]
  refine g_if_eq (pc := pc + 1) hd2 ht ?_ (fun h => kt ?_) (fun h => kf ?_) hx H locs ls hW hS hl
  · split <;> (try split) <;> omega
  all_goals (revert h; split <;> (try split) <;> omega)
theorem g_lcmp_ne {z w off : Int} {tgt : Nat} (hd : decode cc pc = .ok (.lcmp, 1)) (hd2 : decode cc (pc + 1) = .ok (.ifCond .ne off, 3)) (ht : ((pc + 1 : Nat) : Int) + off = (tgt : Int)) (hz : -9223372036854775808 ≤ z ∧ z ≤ 9223372036854775807) (hw : -9223372036854775808 ≤ w ∧ w ≤ 9223372036854775807) (kt : ¬ z = w → gJ Y X y cc nL ret rm po px k n tgt L st K N I A R Q) (kf : z = w → gJ Y X y cc nL ret rm po px k n (pc + 4) L st K N I A R Q) : gJ Y X y cc nL ret rm po px k n pc L (vl w :: vl z :: st) K N I A R Q := by
  intro hx H locs ls hW hS hl
  refine W.lcmp hx.1 hx.2.1 hd ?_
  rw [lg_cmp_ofInt hz hw]
  refine g_if_ne (pc := pc + 1) hd2 ht ?_ (fun h => kt ?_) (fun h => kf ?_) hx H locs ls hW hS hl
  · split <;> (try split) <;> omega
  all_goals (revert h; split <;> (try split) <;> omega)
theorem g_ret {v : Option Value} {H : Heap} {locs : List Loc} {t : State} (hW : gW Y K N I A R Q H) (hS : va_S (fun q => Y.2.2.2 ≤ q) X.2.2.1.heap H locs) (hp : po v K N I A R Q) (ht : t.heap = H) : gQc Y po X.2.2.2.2.1 X.2.2.1 (.returned v) t := ⟨v, K, N, I, A, R, Q, rfl, hp, by rw [ht]; exact hW, hS.F ht⟩
theorem g_iret {z : Int} (hd : decode cc pc = .ok (.ireturn, 1)) (hr : ret = some .int) (hk : k ≤ rm.cells) (hn : n ≤ rm.slots) (hp : po (some (vi z)) K N I A R Q) : gJ Y X y cc nL ret rm po px k n pc L [vi z] K N I A R Q := fun hx H locs ls hW hS hl => W.widen hk hn (vx_ret (W.iret hx.1 hx.2.1 (hr ▸ hx.2.2.2.2.2.2.2.2.2.1) (fun t ht _ => g_ret hW hS hp ht) hS.2.2 hd (hlocks := hx.2.2.2.2.2.2.2.2.2.2.1)))
theorem g_lret {z : Int} (hd : decode cc pc = .ok (.lreturn, 1)) (hr : ret = some .long) (hk : k ≤ rm.cells) (hn : n ≤ rm.slots) (hp : po (some (vl z)) K N I A R Q) : gJ Y X y cc nL ret rm po px k n pc L [vl z] K N I A R Q := fun hx H locs ls hW hS hl => W.widen hk hn (vx_ret (W.lret hx.1 hx.2.1 (hr ▸ hx.2.2.2.2.2.2.2.2.2.1) (fun t ht _ => g_ret hW hS hp ht) hS.2.2 hd (hlocks := hx.2.2.2.2.2.2.2.2.2.2.1)))
theorem g_zret {z : Int} (hd : decode cc pc = .ok (.ireturn, 1)) (hr : ret = some .boolean) (hz : z = 0 ∨ z = 1) (hk : k ≤ rm.cells) (hn : n ≤ rm.slots) (hp : po (some (vi z)) K N I A R Q) : gJ Y X y cc nL ret rm po px k n pc L [vi z] K N I A R Q := fun hx H locs ls hW hS hl => W.widen hk hn (vx_ret (W.zret (ty := .boolean) hx.1 hx.2.1 (hr ▸ hx.2.2.2.2.2.2.2.2.2.1) (by rcases hz with rfl | rfl <;> decide) (fun t ht _ => g_ret hW hS hp ht) hS.2.2 hd (hlocks := hx.2.2.2.2.2.2.2.2.2.2.1)))
theorem g_vret (hd : decode cc pc = .ok (.return_, 1)) (hr : ret = none) (hk : k ≤ rm.cells) (hn : n ≤ rm.slots) (hp : po none K N I A R Q) : gJ Y X y cc nL ret rm po px k n pc L [] K N I A R Q := fun hx H locs ls hW hS hl => W.widen hk hn (vx_ret (W.vret hx.1 hx.2.1 (hr ▸ hx.2.2.2.2.2.2.2.2.2.1) (fun t ht _ => g_ret hW hS hp ht) hS.2.2 hd (hlocks := hx.2.2.2.2.2.2.2.2.2.2.1)))
theorem g_aret {a : Nat} {rt : FieldType} (hd : decode cc pc = .ok (.areturn, 1)) (hr : ret = some rt) (hrt : (∃ n, rt = .object n) ∨ ∃ t, rt = .array t) (hk : k ≤ rm.cells) (hn : n ≤ rm.slots) (hp : po (some (.ref a)) K N I A R Q) : gJ Y X y cc nL ret rm po px k n pc L [.ref a] K N I A R Q := fun hx H locs ls hW hS hl => W.widen hk hn (vx_ret (W.aret hx.1 hx.2.1 (hr ▸ hx.2.2.2.2.2.2.2.2.2.1) hrt (Or.inr ⟨a, rfl⟩) (fun t ht _ => g_ret hW hS hp ht) hS.2.2 hd (hlocks := hx.2.2.2.2.2.2.2.2.2.2.1)))
end GR
