theorem gExt.same {u U : State} (h : u.vm = U.vm) (hE : gExt u) : gExt U := by
  have ha : u.vm.Alike U.vm := h ▸ Vm.Alike.refl u.vm
  refine ⟨fun w hw => va_Nw.same ?_ h (hE.1 w hw), hE.2.1.moved ha, hE.2.2.1.moved ha, hE.2.2.2.1.moved ha, hE.2.2.2.2.1.moved ha, hE.2.2.2.2.2.1.moved ha, hE.2.2.2.2.2.2.moved ha⟩
  have h2 := (List.mem_filter.mp hw).2
  cases w <;> first | rfl | (simp [gNestW] at h2)
theorem gSt.same {Y : gEnv} {u U : State} (h : u.vm = U.vm) (hH : u.heap = U.heap) (hE : gSt Y u u.heap) : gSt Y U U.heap := ⟨hH ▸ gS1.moved (h ▸ Vm.Alike.refl u.vm) hE.1, ⟨hE.2.1.1.same h.symm, hE.2.1.2.1.same h.symm, hE.2.1.2.2.1.same h.symm, hE.2.1.2.2.2.moved (h ▸ Vm.Alike.refl u.vm)⟩, hE.2.2⟩
section GK
variable {Y : gEnv} {X : gCtx} {y : MethodName} {cc : ByteArray} {nL : Nat} {ret : Option FieldType} {rm : Room} {po : gPo} {px : gPx} {k n pc : Nat} {L : List (Nat × Value)} {st : List Value} {K N : Nat → Nat} {I : Nat → Nat → Int} {A : Nat → Int → Int} {R : Nat → Nat → Option Nat} {Q : Nat → Int → Option Nat}
theorem gIn_blind (av : List Value) : FrameBlind (va_Pc av (gIn Y K N I A R Q)) := fun a U g mk h => ⟨h.1, va_K.moved (u := U) (U := U.calling g mk a) (Vm.Alike.refl U.vm) h.2.1, gExt.same (u := U) (U := U.calling g mk a) rfl h.2.2.1, gSt.same (u := U) (U := U.calling g mk a) rfl rfl h.2.2.2.1, h.2.2.2.2.1, h.2.2.2.2.2⟩
theorem gIn_at {H : Heap} {locs : List Loc} (hx : gX Y X y cc nL ret) (hW : gW Y K N I A R Q H) (hS : va_S (fun q => Y.2.2.2 ≤ q) X.2.2.1.heap H locs) {U : State} (hU : U.heap = H) (hM : X.2.2.1.WarmedH U.vm) : gIn Y K N I A R Q U := by
  obtain ⟨-, -, -, -, -, hK, hE, hSt, hsz, -⟩ := hx
  exact ⟨va_K.moved hM.alike hK, hE.warm hM, hSt.kept hS hM hU, by rw [hU]; exact Nat.le_trans hsz hS.1, by rw [hU]; exact hW⟩
theorem gC_met {av : List Value} (h : gC Y y cc nL ret rm av K N I A R Q po gno) : Met Y.1 y (lw_ws y cc nL ret) rm (va_Pc av (gIn Y K N I A R Q)) (gQc Y po) rm.cells rm.slots (fun q => Y.2.2.2 ≤ q) := by
  intro p e ha hc hk s m args below hf happ hP hT
  obtain ⟨i, oc, h1, h2, h3, h4⟩ := h p e ha hc hk s m args below hf happ hP hT
  refine ⟨i, oc, h1, h2, h3, ?_⟩
  rcases h4 with h4 | ⟨q, -, E, ce, L, ⟨K', N', I', A', R', Q', hx, -⟩, -⟩
  · exact h4
  · exact hx.elim
/-- behind a call that returned -/
theorem g_after {st0 : List Value} {H : Heap} {locs : List Loc} {ls : Array Slot} {mc ms : Nat} {po' : gPo} {a : Array Value} (hx : gX Y X y cc nL ret) (hl : lv_has ls nL L) (hS : va_S (fun q => Y.2.2.2 ≤ q) X.2.2.1.heap H locs)
    (hr : va_Run X.1 Y.1 X.2.1 rm X.2.2.1 X.2.2.2.1 X.2.2.2.2.1 X.2.2.2.2.2.1 X.2.2.2.2.2.2.1 X.2.2.2.2.2.2.2 H locs k n mc ms (F0 X.2.2.2.1 pc ls st0) st (gQc Y po' a) (fun q => Y.2.2.2 ≤ q))
    (kk : ∀ (v : Option Value) (K' N' : Nat → Nat) (I' : Nat → Nat → Int) (A' : Nat → Int → Int) (R' : Nat → Nat → Option Nat) (Q' : Nat → Int → Option Nat), po' v K' N' I' A' R' Q' → gJ Y X y cc nL ret rm po px (k + mc) (n + ms) (pc + 3) L (v.toList ++ st) K' N' I' A' R' Q') : gWj Y X rm H locs k n (gZ Y X po px rm) (F0 X.2.2.2.1 pc ls st0) := by
  intro T hT XX
  obtain ⟨v, st₀, t, T', L', h0, X', hLl, e1, e2, ⟨v', K', N', I', A', R', Q', hv, hp, hW', hF⟩, stp⟩ := hr T hT XX
  cases hv
  obtain ⟨k1, k2, k3⟩ := vx_keep h0 e1 hS (fun q _ h => h) (fun q h => h) hLl hF
  obtain ⟨t2, a1, b1⟩ := kk v K' N' I' A' R' Q' hp hx T'.heap (locs ++ L') ls (by rw [e1]; exact hW') k3 hl T' rfl X'
  exact ⟨t2, stp t2 a1, b1⟩
/-- behind a call that returned or threw: what was thrown goes on to the caller -/
theorem g_afterX {st0 : List Value} {H : Heap} {locs : List Loc} {ls : Array Slot} {mc ms : Nat} {po' : gPo} {px' : gPx} {a : Array Value} (hx : gX Y X y cc nL ret) (hl : lv_has ls nL L) (hS : va_S (fun q => Y.2.2.2 ≤ q) X.2.2.1.heap H locs)
    (hyl : y.cls ≠ "TileFactoryLaw") (hr : vx_Run X.1 Y.1 X.2.1 rm X.2.2.1 X.2.2.2.1 X.2.2.2.2.1 X.2.2.2.2.2.1 X.2.2.2.2.2.2.1 X.2.2.2.2.2.2.2 H locs k n mc ms (F0 X.2.2.2.1 pc ls st0) st (gQc Y po' a) (gXC Y px') (fun q => Y.2.2.2 ≤ q))
    (hk : k + mc ≤ rm.cells) (hn : n + ms ≤ rm.slots) (hpx : ∀ (E : String) (K' N' : Nat → Nat) (I' : Nat → Nat → Int) (A' : Nat → Int → Int) (R' : Nat → Nat → Option Nat) (Q' : Nat → Int → Option Nat), px' E K' N' I' A' R' Q' → px E K' N' I' A' R' Q')
    (kk : ∀ (v : Option Value) (K' N' : Nat → Nat) (I' : Nat → Nat → Int) (A' : Nat → Int → Int) (R' : Nat → Nat → Option Nat) (Q' : Nat → Int → Option Nat), po' v K' N' I' A' R' Q' → gJ Y X y cc nL ret rm po px (k + mc) (n + ms) (pc + 3) L (v.toList ++ st) K' N' I' A' R' Q') : gWj Y X rm H locs k n (gZ Y X po px rm) (F0 X.2.2.2.1 pc ls st0) := by
  intro T hT XX
  rcases hr T hT XX with ⟨v, st₀, t, T', L', h0, X', hLl, e1, e2, ⟨v', K', N', I', A', R', Q', hv, hp, hW', hF⟩, stp⟩ | ⟨q, st₀, t, T', L', E, ce, h0, X', hLl, e1, e2, ⟨K', N', I', A', R', Q', hp, hW', hF⟩, hce, hcv, hcl, stp⟩
  · cases hv
    obtain ⟨k1, k2, k3⟩ := vx_keep h0 e1 hS (fun q _ h => h) (fun q h => h) hLl hF
    obtain ⟨t2, a1, b1⟩ := kk v K' N' I' A' R' Q' hp hx T'.heap (locs ++ L') ls (by rw [e1]; exact hW') k3 hl T' rfl X'
    exact ⟨t2, stp t2 a1, b1⟩
  · obtain ⟨k1, k2, k3⟩ := vx_keep h0 e1 hS (fun q _ h => h) (fun q h => h) hLl hF
    obtain ⟨-, -, -, -, -, -, -, -, -, -, hlocks, hex, -⟩ := id hx
    obtain ⟨t2, a1, b1⟩ := vx_out (pc := pc) (ls := ls) (rest := st) (Qc := gQc Y po) (XC := gXC Y px) (mc := rm.cells) (ms := rm.slots) (fun z hz => (hex hyl z hz).elim) hlocks (by rw [e1]; exact hce) hcv hcl
      (fun t' ht' _ => ⟨K', N', I', A', R', Q', hpx E _ _ _ _ _ _ hp, by rw [ht', e1]; exact hW', k3.F ht'⟩) k3.2.2 hk hn T' rfl X'
    exact ⟨t2, stp.trans a1, b1⟩
theorem g_recv {H : Heap} {q i : Nat} {fs : List Value} {C : String} {T : u_T} {m : Nat} (hx : gX Y X y cc nL ret) (hW : gW Y K N I A R Q H) (hc : vwCl[i]? = some (C, T, m)) (hK : K q ≠ 0) (hat : g_cell Y.2.2.1 K N I A R Q q = .inr (i, fs)) : ∃ cell : Cell, H[q]? = some cell ∧ cell.vm.isStatics = false ∧ X.2.2.1.vm.findClass C = some cell.cls := by
  obtain ⟨Ls, hL, hP, hD⟩ := hW
  obtain ⟨j0, hj0⟩ := va_pl_get (X := []) (f := (g_cell Y.2.2.1 K N I A R Q)) ((hL q).mpr hK)
  rw [hat] at hj0
  exact va_recv hx.2.2.2.2.2.1 hP hc hj0
end GK
/-- what the tables say of a method that is called: virtual, static, constructor -/
def gUV (yc : MethodName) (c' : ByteArray) (nL' : Nat) (ret' : Option FieldType) (a : Nat) : Prop := (Cond.code yc c' nL' ret' ∈ lw_good ∧ Cond.instanceMethod yc ∈ lw_good ∧ Cond.selects yc.cls yc yc ∈ lw_good ∧ Cond.initialized yc.cls ∈ lw_good) ∧ yc.cls ≠ "java/lang/invoke/MethodHandle" ∧ yc.cls ≠ "java/lang/invoke/VarHandle" ∧ (parseMethodDescriptor yc.desc).map (fun d => d.parameters.length) = some a
def gUS (yc : MethodName) (c' : ByteArray) (nL' : Nat) (ret' : Option FieldType) (a : Nat) : Prop := (Cond.code yc c' nL' ret' ∈ lw_good ∧ Cond.static yc ∈ lw_good ∧ Cond.initialized yc.cls ∈ lw_good) ∧ yc.cls ≠ "java/lang/invoke/MethodHandle" ∧ yc.cls ≠ "java/lang/invoke/VarHandle" ∧ (parseMethodDescriptor yc.desc).map (fun d => d.parameters.length) = some a
def gUI (yc : MethodName) (c' : ByteArray) (nL' : Nat) (a : Nat) : Prop := (Cond.code yc c' nL' none ∈ lw_good ∧ Cond.instanceMethod yc ∈ lw_good ∧ Cond.initialized yc.cls ∈ lw_good ∧ yc.name = "<init>") ∧ yc.cls ≠ "java/lang/invoke/MethodHandle" ∧ yc.cls ≠ "java/lang/invoke/VarHandle" ∧ (parseMethodDescriptor yc.desc).map (fun d => d.parameters.length) = some a
section GL
variable {Y : gEnv} {X : gCtx} {y : MethodName} {cc : ByteArray} {nL : Nat} {ret : Option FieldType} {rm : Room} {po : gPo} {px : gPx} {k n pc : Nat} {L : List (Nat × Value)} {st : List Value} {K N : Nat → Nat} {I : Nat → Nat → Int} {A : Nat → Int → Int} {R : Nat → Nat → Option Nat} {Q : Nat → Int → Option Nat}
variable {yc : MethodName} {c' : ByteArray} {nL' a idx : Nat} {ret' : Option FieldType} {rm' : Room} {po' : gPo} {px' : gPx} {As : List Value} {st0 : List Value}
theorem g_callV {b i m : Nat} {fs : List Value} {T : u_T} (hc : vwCl[i]? = some (yc.cls, T, m)) (hKb : K b ≠ 0) (hat : g_cell Y.2.2.1 K N I A R Q b = .inr (i, fs)) (hC : gC Y yc c' nL' ret' rm' (.ref b :: As) K N I A R Q po' gno) (hu : gUV yc c' nL' ret' a) (hw : Cond.methodLink y.cls idx yc ∈ lw_good) (hd : decode cc pc = .ok (.invokevirtual idx, 3)) (hlen : As.length = a) (hst : st0 = As.reverse ++ .ref b :: st) (hroom : rm'.frames + 1 ≤ rm.frames ∧ 8 + (nL' + 11) + rm'.locals ≤ rm.locals) (hfit : k + rm'.cells ≤ rm.cells ∧ n + rm'.slots ≤ rm.slots) (hrest : (st.map fun v => v.category).sum ≤ 8)
    (kk : ∀ (v : Option Value) (K' N' : Nat → Nat) (I' : Nat → Nat → Int) (A' : Nat → Int → Int) (R' : Nat → Nat → Option Nat) (Q' : Nat → Int → Option Nat), po' v K' N' I' A' R' Q' → gJ Y X y cc nL ret rm po px (k + rm'.cells) (n + rm'.slots) (pc + 3) L (v.toList ++ st) K' N' I' A' R' Q') : gJ Y X y cc nL ret rm po px k n pc L st0 K N I A R Q := by
  intro hx H locs ls hW hS hl
  exact g_after hx hl hS (va_runV (As := As) ⟨hx.1, hx.2.1, hx.2.2.1, hx.2.2.2.1, hx.2.2.2.2.1⟩ (gC_met hC) (cwV a hx.2.2.2.2.1 (lg_wsV (hu.1.1) hw hu.1.2.1 hu.1.2.2.1 hu.1.2.2.2) rfl rfl rfl ⟨rfl, hu.2⟩ hroom) ⟨gIn_blind _, g_recv hx hW hc hKb hat, fun U hU hM => ⟨rfl, gIn_at hx hW hS hU hM⟩⟩ rfl hlen hl.1 hst (lv_room hrest) hd hfit) kk
theorem g_callS  (hC : gC Y yc c' nL' ret' rm' (As) K N I A R Q po' gno) (hu : gUS yc c' nL' ret' a) (hw : Cond.methodLink y.cls idx yc ∈ lw_good) (hown : yc.cls = y.cls) (hd : decode cc pc = .ok (.invokestatic idx, 3)) (hlen : As.length = a) (hst : st0 = As.reverse ++ st) (hroom : rm'.frames + 1 ≤ rm.frames ∧ 8 + (nL' + 11) + rm'.locals ≤ rm.locals) (hfit : k + rm'.cells ≤ rm.cells ∧ n + rm'.slots ≤ rm.slots) (hrest : (st.map fun v => v.category).sum ≤ 8)
    (kk : ∀ (v : Option Value) (K' N' : Nat → Nat) (I' : Nat → Nat → Int) (A' : Nat → Int → Int) (R' : Nat → Nat → Option Nat) (Q' : Nat → Int → Option Nat), po' v K' N' I' A' R' Q' → gJ Y X y cc nL ret rm po px (k + rm'.cells) (n + rm'.slots) (pc + 3) L (v.toList ++ st) K' N' I' A' R' Q') : gJ Y X y cc nL ret rm po px k n pc L st0 K N I A R Q := by
  intro hx H locs ls hW hS hl
  exact g_after hx hl hS (va_runS (As := As) ⟨hx.1, hx.2.1, hx.2.2.1, hx.2.2.2.1, hx.2.2.2.2.1⟩ (gC_met hC) (cwS a hx.2.2.2.2.1 (lg_wsS hu.1.1 hw hu.1.2.1 (hown ▸ hu.1.2.2)) rfl rfl rfl ⟨hown, hu.2⟩ hroom) ⟨gIn_blind _, fun U hU hM => ⟨rfl, gIn_at hx hW hS hU hM⟩⟩ rfl hlen hl.1 hst (lv_room hrest) hd hfit) kk
theorem g_callVX {b i m : Nat} {fs : List Value} {T : u_T} (hc : vwCl[i]? = some (yc.cls, T, m)) (hKb : K b ≠ 0) (hat : g_cell Y.2.2.1 K N I A R Q b = .inr (i, fs)) (hC : gC Y yc c' nL' ret' rm' (.ref b :: As) K N I A R Q po' px') (hu : gUV yc c' nL' ret' a) (hw : Cond.methodLink y.cls idx yc ∈ lw_good) (hd : decode cc pc = .ok (.invokevirtual idx, 3)) (hlen : As.length = a) (hst : st0 = As.reverse ++ .ref b :: st) (hroom : rm'.frames + 1 ≤ rm.frames ∧ 8 + (nL' + 11) + rm'.locals ≤ rm.locals) (hfit : k + rm'.cells ≤ rm.cells ∧ n + rm'.slots ≤ rm.slots) (hrest : (st.map fun v => v.category).sum ≤ 8) (hyl : y.cls ≠ "TileFactoryLaw") (hpx : ∀ (E : String) (K' N' : Nat → Nat) (I' : Nat → Nat → Int) (A' : Nat → Int → Int) (R' : Nat → Nat → Option Nat) (Q' : Nat → Int → Option Nat), px' E K' N' I' A' R' Q' → px E K' N' I' A' R' Q')
    (kk : ∀ (v : Option Value) (K' N' : Nat → Nat) (I' : Nat → Nat → Int) (A' : Nat → Int → Int) (R' : Nat → Nat → Option Nat) (Q' : Nat → Int → Option Nat), po' v K' N' I' A' R' Q' → gJ Y X y cc nL ret rm po px (k + rm'.cells) (n + rm'.slots) (pc + 3) L (v.toList ++ st) K' N' I' A' R' Q') : gJ Y X y cc nL ret rm po px k n pc L st0 K N I A R Q := by
  intro hx H locs ls hW hS hl
  exact g_afterX hx hl hS hyl (vx_runV (As := As) ⟨hx.1, hx.2.1, hx.2.2.1, hx.2.2.2.1, hx.2.2.2.2.1⟩ (hC) (cwV a hx.2.2.2.2.1 (lg_wsV (hu.1.1) hw hu.1.2.1 hu.1.2.2.1 hu.1.2.2.2) rfl rfl rfl ⟨rfl, hu.2⟩ hroom) ⟨gIn_blind _, g_recv hx hW hc hKb hat, fun U hU hM => ⟨rfl, gIn_at hx hW hS hU hM⟩⟩ rfl hlen hl.1 hst (lv_room hrest) hd hfit) hfit.1 hfit.2 hpx kk
theorem g_callSX  (hC : gC Y yc c' nL' ret' rm' (As) K N I A R Q po' px') (hu : gUS yc c' nL' ret' a) (hw : Cond.methodLink y.cls idx yc ∈ lw_good) (hown : yc.cls = y.cls) (hd : decode cc pc = .ok (.invokestatic idx, 3)) (hlen : As.length = a) (hst : st0 = As.reverse ++ st) (hroom : rm'.frames + 1 ≤ rm.frames ∧ 8 + (nL' + 11) + rm'.locals ≤ rm.locals) (hfit : k + rm'.cells ≤ rm.cells ∧ n + rm'.slots ≤ rm.slots) (hrest : (st.map fun v => v.category).sum ≤ 8) (hyl : y.cls ≠ "TileFactoryLaw") (hpx : ∀ (E : String) (K' N' : Nat → Nat) (I' : Nat → Nat → Int) (A' : Nat → Int → Int) (R' : Nat → Nat → Option Nat) (Q' : Nat → Int → Option Nat), px' E K' N' I' A' R' Q' → px E K' N' I' A' R' Q')
    (kk : ∀ (v : Option Value) (K' N' : Nat → Nat) (I' : Nat → Nat → Int) (A' : Nat → Int → Int) (R' : Nat → Nat → Option Nat) (Q' : Nat → Int → Option Nat), po' v K' N' I' A' R' Q' → gJ Y X y cc nL ret rm po px (k + rm'.cells) (n + rm'.slots) (pc + 3) L (v.toList ++ st) K' N' I' A' R' Q') : gJ Y X y cc nL ret rm po px k n pc L st0 K N I A R Q := by
  intro hx H locs ls hW hS hl
  exact g_afterX hx hl hS hyl (vx_runS (As := As) ⟨hx.1, hx.2.1, hx.2.2.1, hx.2.2.2.1, hx.2.2.2.2.1⟩ (hC) (cwS a hx.2.2.2.2.1 (lg_wsS hu.1.1 hw hu.1.2.1 (hown ▸ hu.1.2.2)) rfl rfl rfl ⟨hown, hu.2⟩ hroom) ⟨gIn_blind _, fun U hU hM => ⟨rfl, gIn_at hx hW hS hU hM⟩⟩ rfl hlen hl.1 hst (lv_room hrest) hd hfit) hfit.1 hfit.2 hpx kk
theorem g_callI {b : Nat} (hC : gC Y yc c' nL' none rm' (.ref b :: As) K N I A R Q po' gno) (hu : gUI yc c' nL' a) (hw : Cond.methodLink y.cls idx yc ∈ lw_good) (hd : decode cc pc = .ok (.invokespecial idx, 3)) (hlen : As.length = a) (hst : st0 = As.reverse ++ .ref b :: st) (hroom : rm'.frames + 1 ≤ rm.frames ∧ 8 + (nL' + 11) + rm'.locals ≤ rm.locals) (hfit : k + rm'.cells ≤ rm.cells ∧ n + rm'.slots ≤ rm.slots) (hrest : (st.map fun v => v.category).sum ≤ 8)
    (kk : ∀ (v : Option Value) (K' N' : Nat → Nat) (I' : Nat → Nat → Int) (A' : Nat → Int → Int) (R' : Nat → Nat → Option Nat) (Q' : Nat → Int → Option Nat), po' v K' N' I' A' R' Q' → gJ Y X y cc nL ret rm po px (k + rm'.cells) (n + rm'.slots) (pc + 3) L (v.toList ++ st) K' N' I' A' R' Q') : gJ Y X y cc nL ret rm po px k n pc L st0 K N I A R Q := by
  intro hx H locs ls hW hS hl
  exact g_after hx hl hS (va_runI (As := As) ⟨hx.1, hx.2.1, hx.2.2.1, hx.2.2.2.1, hx.2.2.2.2.1⟩ (gC_met hC) (cwI a hx.2.2.2.2.1 (lg_ws hu.1.1) rfl rfl rfl (hx.2.2.2.2.1 _ hu.1.2.2.1) (hx.2.2.2.2.1 _ hw) (hx.2.2.2.2.1 _ hu.1.2.1) hu.1.2.2.2 hu.2 hroom) ⟨gIn_blind _, fun U hU hM => ⟨rfl, gIn_at hx hW hS hU hM⟩⟩ rfl hlen hl.1 hst (lv_room hrest) hd hfit) kk
theorem g_callIN {b : Nat} {host : String} (hC : gC Y yc c' nL' none rm' (.ref b :: As) K N I A R Q po' gno) (hu : gUI yc c' nL' a) (hw : Cond.methodLinkNest y.cls idx yc host ∈ lw_nest) (hd : decode cc pc = .ok (.invokespecial idx, 3)) (hlen : As.length = a) (hst : st0 = As.reverse ++ .ref b :: st) (hroom : rm'.frames + 1 ≤ rm.frames ∧ 8 + (nL' + 11) + rm'.locals ≤ rm.locals) (hfit : k + rm'.cells ≤ rm.cells ∧ n + rm'.slots ≤ rm.slots) (hrest : (st.map fun v => v.category).sum ≤ 8)
    (kk : ∀ (v : Option Value) (K' N' : Nat → Nat) (I' : Nat → Nat → Int) (A' : Nat → Int → Int) (R' : Nat → Nat → Option Nat) (Q' : Nat → Int → Option Nat), po' v K' N' I' A' R' Q' → gJ Y X y cc nL ret rm po px (k + rm'.cells) (n + rm'.slots) (pc + 3) L (v.toList ++ st) K' N' I' A' R' Q') : gJ Y X y cc nL ret rm po px k n pc L st0 K N I A R Q := by
  intro hx H locs ls hW hS hl
  exact g_after hx hl hS (va_runIN (As := As) ⟨hx.1, hx.2.1, hx.2.2.1, hx.2.2.2.1, hx.2.2.2.2.1⟩ (gC_met hC) ⟨va_cnB a hx.2.2.2.2.1 (lg_ws hu.1.1) rfl rfl rfl (hx.2.2.2.2.2.2.1.1 _ hw) (hx.2.2.2.2.1 _ hu.1.2.2.1) hu.2 hroom, hu.1.2.2.2, hx.2.2.2.2.1 _ hu.1.2.1⟩ ⟨gIn_blind _, fun U hU hM => ⟨rfl, gIn_at hx hW hS hU hM⟩⟩ rfl hlen hl.1 hst (lv_room hrest) hd hfit) kk
theorem g_callSN {host : String} (hC : gC Y yc c' nL' ret' rm' As K N I A R Q po' gno) (hu : gUS yc c' nL' ret' a) (hw : Cond.methodLinkNest y.cls idx yc host ∈ lw_nest) (hd : decode cc pc = .ok (.invokestatic idx, 3)) (hlen : As.length = a) (hst : st0 = As.reverse ++ st) (hroom : rm'.frames + 1 ≤ rm.frames ∧ 8 + (nL' + 11) + rm'.locals ≤ rm.locals) (hfit : k + rm'.cells ≤ rm.cells ∧ n + rm'.slots ≤ rm.slots) (hrest : (st.map fun v => v.category).sum ≤ 8)
    (kk : ∀ (v : Option Value) (K' N' : Nat → Nat) (I' : Nat → Nat → Int) (A' : Nat → Int → Int) (R' : Nat → Nat → Option Nat) (Q' : Nat → Int → Option Nat), po' v K' N' I' A' R' Q' → gJ Y X y cc nL ret rm po px (k + rm'.cells) (n + rm'.slots) (pc + 3) L (v.toList ++ st) K' N' I' A' R' Q') : gJ Y X y cc nL ret rm po px k n pc L st0 K N I A R Q := by
  intro hx H locs ls hW hS hl
  exact g_after hx hl hS (va_runSN (As := As) ⟨hx.1, hx.2.1, hx.2.2.1, hx.2.2.2.1, hx.2.2.2.2.1⟩ (gC_met hC) ⟨va_cnB a hx.2.2.2.2.1 (lg_ws hu.1.1) rfl rfl rfl (hx.2.2.2.2.2.2.1.1 _ hw) (hx.2.2.2.2.1 _ hu.1.2.2) hu.2 hroom, hx.2.2.2.2.1 _ hu.1.2.1, trivial⟩ ⟨gIn_blind _, fun U hU hM => ⟨rfl, gIn_at hx hW hS hU hM⟩⟩ rfl hlen hl.1 hst (lv_room hrest) hd hfit) kk
theorem lg_nmem (i : Nat) {w : Cond} (h : lw_tbl[i]? = some w) (hg : gNestW w = true) : w ∈ lw_nest := List.mem_filter.mpr ⟨List.mem_of_getElem? h, hg⟩
/-- Object.<init> -/
theorem g_objInit {b : Nat} (hd : decode cc pc = .ok (.invokespecial idx, 3)) (hw : Cond.methodLink y.cls idx objectInit ∈ lw_good) (hw2 : Cond.instanceMethod objectInit ∈ lw_good) (hw3 : Cond.code objectInit ⟨#[0xb1]⟩ 1 none ∈ lw_good) (hf : 1 ≤ rm.frames) (hlo : (st.map fun v => v.category).sum + 12 ≤ rm.locals) (kk : gJ Y X y cc nL ret rm po px k n (pc + 3) L st K N I A R Q) : gJ Y X y cc nL ret rm po px k n pc L (.ref b :: st) K N I A R Q := by
  intro hx H locs ls hW hS hl
  refine W.objInit hx.1 hx.2.1 hx.2.2.2.1 (hx.2.2.2.2.1 _ hw) (hx.2.2.2.2.1 _ hw2) (hx.2.2.2.2.1 _ hw3) rfl (by rw [hx.2.2.1]; exact hl.1) rfl hd hf ?_ ?_
  · simpa [F0, JFrame.monitorRoom] using hlo
  · exact kk hx H locs ls hW hS hl
end GL
