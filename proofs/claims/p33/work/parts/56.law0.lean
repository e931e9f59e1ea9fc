/-! ===== methods with handlers ===== -/
def gCH (Y : gEnv) (y : MethodName) (cc : ByteArray) (nL : Nat) (ret : Option FieldType) (hh : List (Nat × Nat × Nat × Nat)) (rm : Room) (av : List Value) (K N : Nat → Nat) (I : Nat → Nat → Int) (A : Nat → Int → Int) (R : Nat → Nat → Option Nat) (Q : Nat → Int → Option Nat) (po : gPo) : Prop :=
  vx_Met Y.1 y (Cond.codeWith y cc nL ret hh :: lw_good) rm (va_Pc av (gIn Y K N I A R Q)) (gQc Y po) (gXC Y gno) rm.cells rm.slots (fun q => Y.2.2.2 ≤ q)
theorem gCH_of {Y : gEnv} {y : MethodName} {cc : ByteArray} {nL : Nat} {ret : Option FieldType} {hh : List (Nat × Nat × Nat × Nat)} {rm : Room} {av : List Value} {K N : Nat → Nat} {I : Nat → Nat → Int} {A : Nat → Int → Int} {R : Nat → Nat → Option Nat} {Q : Nat → Int → Option Nat} {po : gPo} (hy : plainName y.cls = true) (hn : (lg_sl av).length ≤ nL) (hlaw : y.cls = "TileFactoryLaw")
    (h : ∀ X : gCtx, X.2.2.2.2.2.2.2.exceptionTable.toList = tableOf hh → gJ Y X y cc nL ret rm po gno 0 0 0 (lv_args 0 av) [] K N I A R Q) : gCH Y y cc nL ret hh rm av K N I A R Q po := by
  refine vx_ofWH (cc := cc) (maxL := nL) (ret := ret) (hh := hh) hy rfl ?_
  intro p e s m args below meth c s₁ B hml hv
  obtain ⟨rfl, hK, hE, hSt, hsz, hW⟩ := hv
  have hts : ∀ w ∈ lw_good, w.before av.toArray s = true := fun w hw => atoms_spec (ws := Cond.codeWith y cc nL ret hh :: lw_good) B.pre w (List.mem_cons_of_mem _ hw)
  have hown : s.vm.findClass y.cls = some m.cls := findClass_of_methodNamed B.named
  have hl := lv_entry av (n := nL) hn
  have htab := vx_table (x := y) B (atoms_spec (ws := Cond.codeWith y cc nL ret hh :: lw_good) B.pre _ List.mem_cons_self)
  rw [lg_entry_eq]
  exact h (p, e, s, m, av.toArray, below, meth, c) htab ⟨B.exec, B.bytes, hml, hown, hts, hK, hE, hSt, hsz, B.returns, B.notSynchronized, fun hne => absurd hlaw hne, (name_of_methodNamed B.named B.method).1⟩ s.heap [] _ hW va_S.rf hl
theorem lg_wsSH {own : String} {idx : Nat} {y : MethodName} {cc : ByteArray} {maxL : Nat} {ret : Option FieldType} {hh : List (Nat × Nat × Nat × Nat)} (h : Cond.codeWith y cc maxL ret hh ∈ lw_good) (h1 : Cond.methodLink own idx y ∈ lw_good) (h2 : Cond.static y ∈ lw_good) (h3 : Cond.initialized y.cls ∈ lw_good) : GoodIn lw_good (va_wsS own idx y (Cond.codeWith y cc maxL ret hh :: lw_good)) := lg_in (fun w hw => by
  unfold va_wsS at hw
  rcases List.mem_append.mp hw with hw | hw
  · simp only [List.mem_cons, List.not_mem_nil, or_false] at hw
    rcases hw with rfl | rfl | rfl <;> assumption
  · exact (List.mem_cons.mp hw).elim (fun e => e ▸ h) id)
def gUH (yc : MethodName) (c' : ByteArray) (nL' : Nat) (ret' : Option FieldType) (hh : List (Nat × Nat × Nat × Nat)) (a : Nat) : Prop := (Cond.codeWith yc c' nL' ret' hh ∈ lw_good ∧ Cond.static yc ∈ lw_good ∧ Cond.initialized yc.cls ∈ lw_good) ∧ yc.cls ≠ "java/lang/invoke/MethodHandle" ∧ yc.cls ≠ "java/lang/invoke/VarHandle" ∧ (parseMethodDescriptor yc.desc).map (fun d => d.parameters.length) = some a
theorem lg_fmem (i : Nat) {w : Cond} (h : lw_tbl[i]? = some w) (hg : gFaceW w = true) : w ∈ lw_face := List.mem_filter.mpr ⟨List.mem_of_getElem? h, hg⟩
theorem fc_ix : Cond.castable "java/lang/IndexOutOfBoundsException" "java/lang/IndexOutOfBoundsException" ∈ lw_face := lg_fmem 341 (by decide +kernel) (by decide +kernel)
theorem fc_ar : Cond.castable "java/lang/IllegalArgumentException" "java/lang/IllegalArgumentException" ∈ lw_face := lg_fmem 412 (by decide +kernel) (by decide +kernel)
theorem fc_st : Cond.castable "java/lang/IllegalStateException" "java/lang/IllegalStateException" ∈ lw_face := lg_fmem 519 (by decide +kernel) (by decide +kernel)
/-- which handler takes a thing of class E -/
def hPick (y : MethodName) (tab : List ExceptionTableEntry) (pc : Nat) (E : String) (U : State) (tgt : Nat) : Prop := ∃ (pre : List ExceptionTableEntry) (z : ExceptionTableEntry) (suf : List ExceptionTableEntry), tab = pre ++ z :: suf ∧ (∀ z ∈ pre, covers z pc = false ∨ (z.catchType ≠ 0 ∧ ∃ nm : String, Cond.classLink y.cls z.catchType nm ∈ lw_good ∧ va_Nc E nm U)) ∧ covers z pc = true ∧ z.catchType ≠ 0 ∧ Cond.classLink y.cls z.catchType E ∈ lw_good ∧ Cond.castable E E ∈ lw_face ∧ z.handlerPc = tgt
theorem hPick0 {y : MethodName} {pc a b h ct : Nat} {E : String} {U : State} {rest : List (Nat × Nat × Nat × Nat)} (hc : covers ⟨a, b, h, ct⟩ pc = true) (h0 : ct ≠ 0) (hl : Cond.classLink y.cls ct E ∈ lw_good) (hf : Cond.castable E E ∈ lw_face) : hPick y (tableOf ((a, b, h, ct) :: rest)) pc E U h := ⟨[], ⟨a, b, h, ct⟩, tableOf rest, rfl, (fun _ hz => nomatch hz), hc, h0, hl, hf, rfl⟩
theorem hPickS {y : MethodName} {pc tgt a b h ct : Nat} {E nm : String} {U : State} {rest : List (Nat × Nat × Nat × Nat)} (h0 : ct ≠ 0) (hl : Cond.classLink y.cls ct nm ∈ lw_good) (hn : va_Nc E nm U) (hp : hPick y (tableOf rest) pc E U tgt) : hPick y (tableOf ((a, b, h, ct) :: rest)) pc E U tgt := by
  obtain ⟨pre, z, suf, h1, h2, h3, h4, h5, h6, h7⟩ := hp
  refine ⟨⟨a, b, h, ct⟩ :: pre, z, suf, ?_, fun q hq => ?_, h3, h4, h5, h6, h7⟩
  · show (⟨a, b, h, ct⟩ : ExceptionTableEntry) :: tableOf rest = _
    rw [h1]; rfl
  · rcases List.mem_cons.mp hq with rfl | hq
    · exact Or.inr ⟨h0, nm, hl, hn⟩
    · exact h2 q hq
section GH
variable {Y : gEnv} {X : gCtx} {y : MethodName} {cc : ByteArray} {nL : Nat} {ret : Option FieldType} {rm : Room} {po : gPo} {px : gPx} {k n pc : Nat} {L : List (Nat × Value)} {st : List Value} {K N : Nat → Nat} {I : Nat → Nat → Int} {A : Nat → Int → Int} {R : Nat → Nat → Option Nat} {Q : Nat → Int → Option Nat}
variable {yc : MethodName} {c' : ByteArray} {nL' a idx : Nat} {ret' : Option FieldType} {rm' : Room} {po' : gPo} {px' : gPx} {As : List Value} {st0 : List Value} {hh : List (Nat × Nat × Nat × Nat)}
/-- behind a call that returned, or threw something that a handler takes -/
theorem g_afterH {H : Heap} {locs : List Loc} {ls : Array Slot} {mc ms : Nat} {b : Array Value} (hx : gX Y X y cc nL ret) (hl : lv_has ls nL L) (hS : va_S (fun q => Y.2.2.2 ≤ q) X.2.2.1.heap H locs)
    (hr : vx_Run X.1 Y.1 X.2.1 rm X.2.2.1 X.2.2.2.1 X.2.2.2.2.1 X.2.2.2.2.2.1 X.2.2.2.2.2.2.1 X.2.2.2.2.2.2.2 H locs k n mc ms (F0 X.2.2.2.1 pc ls st0) st (gQc Y po' b) (gXC Y px') (fun q => Y.2.2.2 ≤ q))
    (kx : gFa X.2.2.1 → ∀ (E : String) (K' N' : Nat → Nat) (I' : Nat → Nat → Int) (A' : Nat → Int → Int) (R' : Nat → Nat → Option Nat) (Q' : Nat → Int → Option Nat), px' E K' N' I' A' R' Q' → ∃ tgt, hPick y X.2.2.2.2.2.2.2.exceptionTable.toList pc E X.2.2.1 tgt ∧ ∀ q : Nat, gJ Y X y cc nL ret rm po px (k + mc) (n + ms) tgt L [.ref q] K' N' I' A' R' Q')
    (kk : ∀ (v : Option Value) (K' N' : Nat → Nat) (I' : Nat → Nat → Int) (A' : Nat → Int → Int) (R' : Nat → Nat → Option Nat) (Q' : Nat → Int → Option Nat), po' v K' N' I' A' R' Q' → gJ Y X y cc nL ret rm po px (k + mc) (n + ms) (pc + 3) L (v.toList ++ st) K' N' I' A' R' Q') : gWj Y X rm H locs k n (gZ Y X po px rm) (F0 X.2.2.2.1 pc ls st0) := by
  intro T hT XX
  rcases hr T hT XX with ⟨v, st₀, t, T', L', h0, X', hLl, e1, e2, ⟨v', K', N', I', A', R', Q', hv, hp, hW', hF⟩, stp⟩ | ⟨q, st₀, t, T', L', E, ce, h0, X', hLl, e1, e2, ⟨K', N', I', A', R', Q', hp, hW', hF⟩, hce, hcv, hcl, stp⟩
  · cases hv
    obtain ⟨k1, k2, k3⟩ := vx_keep h0 e1 hS (fun q _ h => h) (fun q h => h) hLl hF
    obtain ⟨t2, a1, b1⟩ := kk v K' N' I' A' R' Q' hp hx T'.heap (locs ++ L') ls (by rw [e1]; exact hW') k3 hl T' rfl X'
    exact ⟨t2, stp t2 a1, b1⟩
  · obtain ⟨k1, k2, k3⟩ := vx_keep h0 e1 hS (fun q _ h => h) (fun q h => h) hLl hF
    have hfa := hx.2.2.2.2.2.2.2.1.2.1.2.2.2
    obtain ⟨tgt, ⟨pre, z, suf, t1, t2, t3, t4, t5, t6, t7⟩, kq⟩ := kx hfa E K' N' I' A' R' Q' hp
    have kq2 := kq q hx T'.heap (locs ++ L') ls (by rw [e1]; exact hW') k3 hl
    rw [← t7] at kq2
    obtain ⟨t9, a1, b1⟩ := vx_catch (own := y.cls) (name := E) (pc := pc) (ls := ls) (rest := st) hx.2.2.2.1 pre z suf t1 (fun w hw => (t2 w hw).imp id (fun h => ⟨h.1, h.2.choose, hx.2.2.2.2.1 _ h.2.choose_spec.1, h.2.choose_spec.2⟩)) t3 t4 (hx.2.2.2.2.1 _ t5) (hfa.any _ _ t6) (by rw [e1]; exact hce) hcv hcl kq2 T' rfl X'
    exact ⟨t9, stp.trans a1, b1⟩
theorem g_callVH {b i m : Nat} {fs : List Value} {T : u_T} (hc : vwCl[i]? = some (yc.cls, T, m)) (hKb : K b ≠ 0) (hat : g_cell Y.2.2.1 K N I A R Q b = .inr (i, fs)) (hC : gC Y yc c' nL' ret' rm' (.ref b :: As) K N I A R Q po' px') (hu : gUV yc c' nL' ret' a) (hw : Cond.methodLink y.cls idx yc ∈ lw_good) (hd : decode cc pc = .ok (.invokevirtual idx, 3)) (hlen : As.length = a) (hst : st0 = As.reverse ++ .ref b :: st) (hroom : rm'.frames + 1 ≤ rm.frames ∧ 8 + (nL' + 11) + rm'.locals ≤ rm.locals) (hfit : k + rm'.cells ≤ rm.cells ∧ n + rm'.slots ≤ rm.slots) (hrest : (st.map fun v => v.category).sum ≤ 8)
    (kx : gFa X.2.2.1 → ∀ (E : String) (K' N' : Nat → Nat) (I' : Nat → Nat → Int) (A' : Nat → Int → Int) (R' : Nat → Nat → Option Nat) (Q' : Nat → Int → Option Nat), px' E K' N' I' A' R' Q' → ∃ tgt, hPick y X.2.2.2.2.2.2.2.exceptionTable.toList pc E X.2.2.1 tgt ∧ ∀ q : Nat, gJ Y X y cc nL ret rm po px (k + rm'.cells) (n + rm'.slots) tgt L [.ref q] K' N' I' A' R' Q')
    (kk : ∀ (v : Option Value) (K' N' : Nat → Nat) (I' : Nat → Nat → Int) (A' : Nat → Int → Int) (R' : Nat → Nat → Option Nat) (Q' : Nat → Int → Option Nat), po' v K' N' I' A' R' Q' → gJ Y X y cc nL ret rm po px (k + rm'.cells) (n + rm'.slots) (pc + 3) L (v.toList ++ st) K' N' I' A' R' Q') : gJ Y X y cc nL ret rm po px k n pc L st0 K N I A R Q := by
  intro hx H locs ls hW hS hl
  exact g_afterH hx hl hS (vx_runV (As := As) ⟨hx.1, hx.2.1, hx.2.2.1, hx.2.2.2.1, hx.2.2.2.2.1⟩ (hC) (cwV a hx.2.2.2.2.1 (lg_wsV (hu.1.1) hw hu.1.2.1 hu.1.2.2.1 hu.1.2.2.2) rfl rfl rfl ⟨rfl, hu.2⟩ hroom) ⟨gIn_blind _, g_recv hx hW hc hKb hat, fun U hU hM => ⟨rfl, gIn_at hx hW hS hU hM⟩⟩ rfl hlen hl.1 hst (lv_room hrest) hd hfit) kx kk
/-- a call of a method that never throws here -/
theorem g_callV0 {b i m : Nat} {fs : List Value} {T : u_T} (hc : vwCl[i]? = some (yc.cls, T, m)) (hKb : K b ≠ 0) (hat : g_cell Y.2.2.1 K N I A R Q b = .inr (i, fs)) (hC : gC Y yc c' nL' ret' rm' (.ref b :: As) K N I A R Q po' px') (hu : gUV yc c' nL' ret' a) (hw : Cond.methodLink y.cls idx yc ∈ lw_good) (hd : decode cc pc = .ok (.invokevirtual idx, 3)) (hlen : As.length = a) (hst : st0 = As.reverse ++ .ref b :: st) (hroom : rm'.frames + 1 ≤ rm.frames ∧ 8 + (nL' + 11) + rm'.locals ≤ rm.locals) (hfit : k + rm'.cells ≤ rm.cells ∧ n + rm'.slots ≤ rm.slots) (hrest : (st.map fun v => v.category).sum ≤ 8)
    (hno : ∀ (E : String) (K' N' : Nat → Nat) (I' : Nat → Nat → Int) (A' : Nat → Int → Int) (R' : Nat → Nat → Option Nat) (Q' : Nat → Int → Option Nat), ¬ px' E K' N' I' A' R' Q')
    (kk : ∀ (v : Option Value) (K' N' : Nat → Nat) (I' : Nat → Nat → Int) (A' : Nat → Int → Int) (R' : Nat → Nat → Option Nat) (Q' : Nat → Int → Option Nat), po' v K' N' I' A' R' Q' → gJ Y X y cc nL ret rm po px (k + rm'.cells) (n + rm'.slots) (pc + 3) L (v.toList ++ st) K' N' I' A' R' Q') : gJ Y X y cc nL ret rm po px k n pc L st0 K N I A R Q :=
  g_callVH hc hKb hat hC hu hw hd hlen hst hroom hfit hrest (fun _ E K' N' I' A' R' Q' hp => (hno E K' N' I' A' R' Q' hp).elim) kk
theorem g_callH (hC : gCH Y yc c' nL' ret' hh rm' As K N I A R Q po') (hu : gUH yc c' nL' ret' hh a) (hw : Cond.methodLink y.cls idx yc ∈ lw_good) (hd : decode cc pc = .ok (.invokestatic idx, 3)) (hlen : As.length = a) (hst : st0 = As.reverse ++ st) (hroom : rm'.frames + 1 ≤ rm.frames ∧ 8 + (nL' + 11) + rm'.locals ≤ rm.locals) (hfit : k + rm'.cells ≤ rm.cells ∧ n + rm'.slots ≤ rm.slots) (hrest : (st.map fun v => v.category).sum ≤ 8)
    (kk : ∀ (v : Option Value) (K' N' : Nat → Nat) (I' : Nat → Nat → Int) (A' : Nat → Int → Int) (R' : Nat → Nat → Option Nat) (Q' : Nat → Int → Option Nat), po' v K' N' I' A' R' Q' → gJ Y X y cc nL ret rm po px (k + rm'.cells) (n + rm'.slots) (pc + 3) L (v.toList ++ st) K' N' I' A' R' Q') : gJ Y X y cc nL ret rm po px k n pc L st0 K N I A R Q := by
  intro hx H locs ls hW hS hl
  exact g_afterH (px' := gno) hx hl hS (vx_runSX (hh := hh) (As := As) ⟨hx.1, hx.2.1, hx.2.2.1, hx.2.2.2.1, hx.2.2.2.2.1⟩ hC (vx_cwSW a hx.2.2.2.2.1 (lg_wsSH hu.1.1 hw hu.1.2.1 hu.1.2.2) rfl rfl rfl hu.2 hroom) ⟨gIn_blind _, fun U hU hM => ⟨rfl, gIn_at hx hW hS hU hM⟩⟩ rfl hlen hl.1 hst (lv_room hrest) hd hfit) (fun _ E K' N' I' A' R' Q' hp => hp.elim) kk
/-! ===== small rows of the law ===== -/
def sI (z : Int) : Int := (Int32.ofInt z).toInt
theorem sI_range (z : Int) : -2147483648 ≤ sI z ∧ sI z ≤ 2147483647 := ⟨Int32.le_toInt _, by have := Int32.toInt_lt (Int32.ofInt z); unfold sI; omega⟩
theorem vi_sI (z : Int) : vi (sI z) = vi z := congrArg Value.int (Int32.ofInt_toInt _)
theorem g_i2lw {z : Int} (hd : decode cc pc = .ok (.i2l, 1)) (kk : gJ Y X y cc nL ret rm po px k n (pc + 1) L (vl (sI z) :: st) K N I A R Q) : gJ Y X y cc nL ret rm po px k n pc L (vi z :: st) K N I A R Q := fun hx H locs ls hW hS hl => lv_i2l hx.1 hx.2.1 hd (by
  apply Int64.toInt.inj
  have h := sI_range z
  rw [Int32.toInt_toInt64, i64_toInt (by omega)]
  rfl) (kk hx H locs ls hW hS hl)
theorem g_icmp_eqr {z off : Int} {tgt : Nat} (hd : decode cc pc = .ok (.if_icmp .eq off, 3)) (ht : (pc : Int) + off = (tgt : Int)) (kk : gJ Y X y cc nL ret rm po px k n tgt L st K N I A R Q) : gJ Y X y cc nL ret rm po px k n pc L (vi z :: vi z :: st) K N I A R Q := fun hx H locs ls hW hS hl => lv_icmp_eq hx.1 hx.2.1 hd ht (fun _ => kk hx H locs ls hW hS hl) (fun h => absurd rfl h)
theorem g_lcmp_eqr {z off : Int} {tgt : Nat} (hd : decode cc pc = .ok (.lcmp, 1)) (hd2 : decode cc (pc + 1) = .ok (.ifCond .eq off, 3)) (ht : ((pc + 1 : Nat) : Int) + off = (tgt : Int)) (kk : gJ Y X y cc nL ret rm po px k n tgt L st K N I A R Q) : gJ Y X y cc nL ret rm po px k n pc L (vl z :: vl z :: st) K N I A R Q := by
  intro hx H locs ls hW hS hl
  refine W.lcmp hx.1 hx.2.1 hd ?_
  have e : lg_cmp (Int64.ofInt z) (Int64.ofInt z) = 0 := by
    unfold lg_cmp
    simp
  rw [e]
  exact lv_if_eq hx.1 hx.2.1 hd2 ht (fun _ => kk hx H locs ls hW hS hl) (fun h => absurd rfl h)
theorem i32_and31 (x : Int32) : 0 ≤ (x &&& (31 : Int32)).toInt ∧ (x &&& (31 : Int32)).toInt ≤ 31 := by
  have h : (x &&& (31 : Int32)).toBitVec.toNat ≤ 31 := by
    rw [Int32.toBitVec_and, BitVec.toNat_and]
    exact Nat.and_le_right
  have e : (x &&& (31 : Int32)).toInt = ((x &&& (31 : Int32)).toBitVec.toNat : Int) := by
    rw [← Int32.toInt_toBitVec, BitVec.toInt_eq_toNat_of_lt (by omega)]
  omega
theorem g_and31 {a : Int} (hd : decode cc pc = .ok (.iand, 1)) (kk : ∀ z : Int, 0 ≤ z → z ≤ 31 → gJ Y X y cc nL ret rm po px k n (pc + 1) L (vi z :: st) K N I A R Q) : gJ Y X y cc nL ret rm po px k n pc L (vi 31 :: vi a :: st) K N I A R Q := by
  intro hx H locs ls hW hS hl
  refine lv_iand hx.1 hx.2.1 hd ?_
  have hb := i32_and31 (Int32.ofInt a)
  have h := kk (Int32.ofInt a &&& (31 : Int32)).toInt hb.1 hb.2
  rw [show vi (Int32.ofInt a &&& (31 : Int32)).toInt = Value.int (Int32.ofInt a &&& (31 : Int32)) from congrArg Value.int (Int32.ofInt_toInt _)] at h
  exact h hx H locs ls hW hS hl
/-- the script, and that nothing of the world is in it -/
def lScr (X : gCtx) (Y : gEnv) (b Ln : Nat) (xs : Nat → Int32) : Prop := va_X b Ln xs X.2.2.1 X.2.2.1.heap ∧ b < X.2.2.1.heap.size ∧ ¬ Y.2.2.2 ≤ b ∧ Ln ≤ 3072
def xsI (xs : Nat → Int32) (i : Int) : Int := (xs i.toNat).toInt
theorem xsI_range (xs : Nat → Int32) (i : Int) : -2147483648 ≤ xsI xs i ∧ xsI xs i ≤ 2147483647 := ⟨Int32.le_toInt _, by have := Int32.toInt_lt (xs i.toNat); unfold xsI; omega⟩
theorem g_sld {b Ln : Nat} {xs : Nat → Int32} {i : Int} (hsc : lScr X Y b Ln xs) (hi : 0 ≤ i ∧ i < Ln) (hd : decode cc pc = .ok (.iaload, 1)) (kk : gJ Y X y cc nL ret rm po px k n (pc + 1) L (vi (xsI xs i) :: st) K N I A R Q) : gJ Y X y cc nL ret rm po px k n pc L (vi i :: .ref b :: st) K N I A R Q := by
  intro hx H locs ls hW hS hl
  refine va_sld hx.1 hx.2.1 hsc.1 hsc.2.1 hsc.2.2.1 hS (i32_in hi (by have := hsc.2.2.2; omega)) hd ?_
  have h := kk hx H locs ls hW hS hl
  rw [show vi (xsI xs i) = Value.int (xs (Int32.ofInt i).toNatClampNeg) from congrArg Value.int (by
    rw [i32_nat (by have := hsc.2.2.2; omega)]
    exact Int32.ofInt_toInt _)] at h
  exact h
theorem g_slen {b Ln : Nat} {xs : Nat → Int32} (hsc : lScr X Y b Ln xs) (hd : decode cc pc = .ok (.arraylength, 1)) (kk : gJ Y X y cc nL ret rm po px k n (pc + 1) L (vi Ln :: st) K N I A R Q) : gJ Y X y cc nL ret rm po px k n pc L (.ref b :: st) K N I A R Q := by
  intro hx H locs ls hW hS hl
  refine va_slen hx.1 hx.2.1 hsc.1 hsc.2.1 hsc.2.2.1 hS hd ?_
  exact kk hx H locs ls hW hS hl
theorem g_widen {k' n' : Nat} (h1 : k ≤ k') (h2 : n ≤ n') (kk : gJ Y X y cc nL ret rm po px k' n' pc L st K N I A R Q) : gJ Y X y cc nL ret rm po px k n pc L st K N I A R Q := fun hx H locs ls hW hS hl => W.widen h1 h2 (kk hx H locs ls hW hS hl)
end GH
/-! ===== cells of others change ===== -/
/-! ===== what a wrapper of the law leaves ===== -/
/-! ===== what the loop keeps ===== -/
def lHs (n : Int) (SV : Int → Int) : Prop := mT SV ∧ ∀ i, 0 ≤ i → i < n → iZ (sW SV i) ∧ 0 ≤ sW SV i 1614
def lOk (W : Int → Int) (n : Int) (SV T : Int → Int) (len : Int) : Prop := iZ W ∧ mT W ∧ lHs n SV ∧ (∀ j, 0 ≤ j → j < 100 → 0 ≤ T j ∧ T j ≤ 126) ∧ 0 ≤ len ∧ len ≤ 100
theorem cI.hN {K N : Nat → Nat} {I : Nat → Nat → Int} {A : Nat → Int → Int} {R : Nat → Nat → Option Nat} {Q : Nat → Int → Option Nat} {G : Nat → Nat × Int} {M : Nat → Prop} {x s h hq sc sg ar : Nat} {W SV T : Int → Int} {n len : Int} (hI : cI K N I A R Q G M x s h hq sc sg ar W n SV T len) : iN W ∧ 0 ≤ n ∧ n ≤ 6 := ⟨hI.2.2.2.2.1.1, hI.2.1.2.2.2.2.2.1, hI.2.1.2.2.2.2.2.2⟩
theorem iZ.cg {w w' : Int → Int} (h : iZ w) (h0 : 0 ≤ w 1614) (e : ∀ j, 0 ≤ j → j < 1618 → w' j = w j) : iZ w' := h.of h0 (fun j a b => e j (by omega) (by omega)) (e 1614 (by omega) (by omega))
theorem sSvC_in {s W : Int → Int} {m j : Int} (a : m * 1618 ≤ j) (b : j < m * 1618 + 1618) : sSvC s W m 1618 j = W (j - m * 1618) := by simp only [sSvC]; rw [if_pos ⟨a, b⟩]
theorem sSvC_out {s W : Int → Int} {m j : Int} (a : j < m * 1618) : sSvC s W m 1618 j = s j := by simp only [sSvC]; rw [if_neg (by omega)]
theorem sSvS_in {s : Int → Int} {j : Int} (a : 0 ≤ j) (b : j < 8090) : sSvS s 8090 j = s (j + 1618) := by simp only [sSvS]; rw [if_pos ⟨a, b⟩]
theorem mT.svC {s W : Int → Int} {m k : Int} (hs : mT s) (hW : mT W) : mT (sSvC s W m k) := fun j => by
  simp only [sSvC]
  split
  · exact hW _
  · exact hs _
theorem mT.svS {s : Int → Int} {k : Int} (hs : mT s) : mT (sSvS s k) := fun j => by
  simp only [sSvS]
  split
  · exact hs _
  · exact hs _
theorem lHs.svC {n m : Int} {SV W : Int → Int} (h : lHs n SV) (h0 : 0 ≤ m) (hm : m ≤ n) (hW : mT W) (hz : iZ W) (hn : 0 ≤ W 1614) : lHs (m + 1) (sSvC SV W m 1618) := by
  refine ⟨h.1.svC hW, fun i a b => ?_⟩
  by_cases e : i = m
  · subst e
    have e2 : ∀ j, 0 ≤ j → j < 1618 → sW (sSvC SV W i 1618) i j = W j := fun j p q => by
      rw [sW_in p q, sSvC_in (by omega) (by omega), show i * 1618 + j - i * 1618 = j by omega]
    exact ⟨hz.cg hn e2, by rw [e2 1614 (by omega) (by omega)]; exact hn⟩
  · obtain ⟨h1, h2⟩ := h.2 i a (by omega)
    have e2 : ∀ j, 0 ≤ j → j < 1618 → sW (sSvC SV W m 1618) i j = sW SV i j := fun j p q => by
      rw [sW_in p q, sW_in p q, sSvC_out (by omega)]
    exact ⟨h1.cg h2 e2, by rw [e2 1614 (by omega) (by omega)]; exact h2⟩
theorem lHs.svS {SV : Int → Int} (h : lHs 6 SV) : lHs 5 (sSvS SV 8090) := by
  refine ⟨h.1.svS, fun i a b => ?_⟩
  obtain ⟨h1, h2⟩ := h.2 (i + 1) (by omega) (by omega)
  have e2 : ∀ j, 0 ≤ j → j < 1618 → sW (sSvS SV 8090) i j = sW SV (i + 1) j := fun j p q => by
    rw [sW_in p q, sW_in p q, sSvS_in (by omega) (by omega), show i * 1618 + j + 1618 = (i + 1) * 1618 + j by omega]
  exact ⟨h1.cg h2 e2, by rw [e2 1614 (by omega) (by omega)]; exact h2⟩
theorem lOk.op {W W' SV T : Int → Int} {n len : Int} (h : lOk W n SV T len) (hN : iN W) (hn : 0 ≤ n ∧ n ≤ 6) (hz : iZ W') (hm : mT W') : lOk W' (sCnt n) (sSvd SV W n) T len := by
  obtain ⟨h1, h2, h3, h4, h5⟩ := h
  have h14 : 0 ≤ W 1614 := hN.2.2.2.2.1.1
  refine ⟨hz, hm, ?_, h4, h5⟩
  by_cases e : n = 6
  · subst e
    rw [show sCnt 6 = 5 + 1 by rfl, show sSvd SV W 6 = sSvC (sSvS SV 8090) W 5 1618 by rfl]
    exact h3.svS.svC (by omega) (by omega) h2 h1 h14
  · rw [show sCnt n = n + 1 by unfold sCnt; rw [if_neg e], show sSvd SV W n = sSvC SV W n 1618 by unfold sSvd; rw [if_neg e]]
    exact h3.svC hn.1 (Int.le_refl _) h2 h1 h14
theorem lOk.undo {W SV T : Int → Int} {n len : Int} (h : lOk W n SV T len) (hn : 0 < n) : lOk (sBack SV W (n - 1) 1618) (n - 1) SV T len := by
  obtain ⟨h1, h2, h3, h4, h5⟩ := h
  obtain ⟨g1, g2⟩ := h3.2 (n - 1) (by omega) (by omega)
  have e2 : ∀ j, 0 ≤ j → j < 1618 → sBack SV W (n - 1) 1618 j = sW SV (n - 1) j := fun j p q => by
    rw [sW_in p q]
    simp only [sBack]
    rw [if_pos ⟨p, q⟩]
  refine ⟨g1.cg g2 e2, fun j => ?_, ⟨h3.1, fun i a b => h3.2 i a (by omega)⟩, h4, h5⟩
  simp only [sBack]
  split
  · exact h3.1 _
  · exact h2 _
