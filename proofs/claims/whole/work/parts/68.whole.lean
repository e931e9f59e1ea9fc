/-! THE CLAIM OUT OF ONE WALK OF THE LAW'S BODY. Your part is whole_start (and what it stands on); all else here is the same for every law, but numbers. -/
def R_law : String := "TileFactoryLaw"
def lw_P (b : Addr) (xs : List Int32) (args : Array Value) (s : State) : Prop := args = #[.ref b] ∧ s.IntsAt b xs ∧ xs.length ≤ 3072 ∧ (Jvm.Cond.and given_1 narrow_1).before args s = true
def lw_Q (_ : Array Value) (s : State) (o : Outcome) (t : State) : Prop := o = .returned (some (.int 1)) ∧ Framed s o t [] 668115 7091759
def lw_Z (below : List Frame) (a : Array Value) (s : State) : State → Prop := fun t => ∃ o, t.status = .running ∧ Ended t below o ∧ lw_Q a s o t
/-- the law's own end, with 1 on the stack, nothing written that was there before, its room as the claim has it -/
theorem lw_ret {p : Program} {l : Launch} {e : Env} {s : State} {m : MethodId} {below : List Frame} {meth : Method} {c : Code} {b : Nat} (hx : p.tables.exec = Jvm.exec) (hb : c.code = code) (hr : meth.sig.returnType = ret) (hlocks : meth.locks = false) {pc : Nat} {H : Heap} {ls : Array Slot} (hdg : decode code pc = .ok (.ireturn, 1)) : W p l e room_1 s m #[Value.ref b] below meth c H [] 668115 7091759 (lw_Z below #[Value.ref b] s) (F0 m pc ls [.int 1]) := by
  intro T hT X
  obtain ⟨fs, hret, hrun, hended, hW, hframe⟩ := X.leave (v := some (.int 1)) (hlocks := hlocks) (fun h => by rw [hr] at h; cases h)
  have hmeth' : T.vm.method? m = some meth := X.method'
  refine ⟨T.setFrames fs, ?_, .returned (some (.int 1)), hrun, hended, rfl, ⟨_, rfl⟩, hW, hframe⟩
  jvm_step X.here [X.here.top, hx, hb, hdg, hmeth', hr, ret, narrow_b1]
  (try refine ⟨rfl, ?_⟩); (try refine ⟨rfl, ?_⟩)
  first | (intro acts; rw [hret _ acts rfl rfl rfl]) | rw [hret _ _ rfl rfl rfl]
  exact Steps.refl _
/-- what holds at the law's entry: the machine, the code, the tables' words (any of lw_tbl by 'hts w (by decide +kernel)'), the script of L ints xs at the cell b, what the Statement gives of the start (any of its parts by flat_of_before) -/
def lw_At (p : Program) (s : State) (m : MethodId) (meth : Method) (c : Code) (b L : Nat) (xs : Nat → Int32) : Prop :=
  p.tables.exec = Jvm.exec ∧ c.code = code ∧ meth.sig.returnType = ret ∧ c.maxLocals = 8 ∧ s.vm.findClass R_law = some m.cls ∧ (∀ w ∈ lw_tbl, w.before #[Value.ref b] s = true) ∧ va_X b L xs s s.heap ∧ b < s.heap.size ∧ meth.locks = false ∧ (Jvm.Cond.and given_1 narrow_1).before #[Value.ref b] s = true ∧ meth.name = "law"
/-- the law's end, as the skeleton wants it -/
theorem lw_end {l : Launch} {Y : gEnv} {s : State} {below : List Frame} {a : Array Value} {t : State} (hY : Y.2.2.2 = s.heap.size) (h : vx_MQ below (gQc Y lPo) (gXC Y gno) a s room_1.cells room_1.slots (fun q => Y.2.2.2 ≤ q) t) : lw_Z below a s t := by
  obtain ⟨o, h1, h2, h3⟩ := h
  refine ⟨o, h1, h2, ?_⟩
  rcases h3 with ⟨⟨v, K, N, I, A, R, Q, e, hp, -, -⟩, L, hF, hL⟩ | ⟨q, -, E, ce, L, ⟨K, N, I, A, R, Q, hp, -⟩, -⟩
  · obtain ⟨g1, g2, g3⟩ := hF
    have hv : v = some (vi 1) := hp
    refine ⟨by rw [e, hv]; rfl, g1, g2, g3.weaken (fun z hz hlt => ?_) (Nat.le_refl _) (Nat.le_refl _)⟩
    have := hL z hz
    rw [hY] at this
    exact absurd hlt (Nat.not_lt.mpr this)
  · exact hp.elim
set_option maxHeartbeats 4000000 in
set_option maxRecDepth 100000 in
/-- THE LAW, from its entry -/
theorem law_start {Y : gEnv} {X : gCtx} {b Ln : Nat} {xs : Nat → Int32} (hsc : lScr X Y b Ln xs) : gJ Y X yL_law cL_law 8 (some .boolean) room_1 lPo gno 0 0 0 [(0, .ref b)] [] (fun _ => 0) (fun _ => 0) (fun _ _ => 0) (fun _ _ => 0) (fun _ _ => none) (fun _ _ => none) := by
  have hln := hsc.2.2.2
  refine g_new_TileFactory dL_law_0 mw_89 mw_90 mw_63 (by decide) (by decide) (fun x K0 I0 R0 z0 hK0 hI0 hR0 => ?_)
  refine g_dup dL_law_3 rfl ?_
  have kx0 : K0 x = 10 := by rw [hK0, va_up_self]
  refine g_callI (k_A_init Y kx0) u_X12_init mw_91 dL_law_4 rfl rfl ⟨Nat.le_of_ble_eq_true rfl, Nat.le_of_ble_eq_true rfl⟩ ⟨Nat.le_of_ble_eq_true rfl, Nat.le_of_ble_eq_true rfl⟩ (Nat.le_of_ble_eq_true rfl) (fun v4 K4 N4 I4 A4 R4 Q4 h4 => ?_)
  obtain ⟨rfl, G, s, h, hq, sc, sg, ar, hI⟩ := h4
  refine g_astore_n dL_law_7 rfl (by decide) ?_
  refine g_new_Model dL_law_8 mw_1145 mw_1146 mw_73 (by decide) (by decide) (fun xm K8 I8 R8 z8 hK8 hI8 hR8 => ?_)
  refine g_dup dL_law_11 rfl ?_
  have km8 : K8 xm = 11 := by rw [hK8, va_up_self]
  refine g_callI (k_M_init Y km8) u_X13_init mw_1147 dL_law_12 rfl rfl ⟨Nat.le_of_ble_eq_true rfl, Nat.le_of_ble_eq_true rfl⟩ ⟨Nat.le_of_ble_eq_true rfl, Nat.le_of_ble_eq_true rfl⟩ (Nat.le_of_ble_eq_true rfl) (fun v12 K12 N12 I12 A12 R12 Q12 h12 => ?_)
  obtain ⟨rfl, i12, q12, hold, w, sv, tx, ag, hM, hws, zw, zsv, ztx, zag, aw, asv, atx⟩ := h12
  refine g_astore_n dL_law_15 rfl (by decide) ?_
  refine g_iconst dL_law_16 ?_
  refine g_newa_l (m := 1) dL_law_17 mw_1186 (by decide) (by decide) (by decide) (by decide) (fun out K17 N17 A17 zo hK17 hN17 hA17 => ?_)
  refine g_astore_n dL_law_19 rfl (by decide) ?_
  refine g_iconst dL_law_20 ?_
  refine g_istore dL_law_21 (by decide) ?_
  have km12 : K12 xm = 11 := hM.1
  have nz : ∀ q, K12 q ≠ 0 → q ≠ out := fun q hq e => hq (by rw [e]; exact zo)
  have om : xm ≠ out := nz xm (by rw [hM.1]; decide)
  have ow : w ≠ out := nz w (by rw [hM.2.2.2.2.2.1]; decide)
  have os : sv ≠ out := nz sv (by rw [hM.2.2.2.2.2.2.2.1]; decide)
  have ot : tx ≠ out := nz tx (by rw [hM.2.2.2.2.2.2.2.2.2.1]; decide)
  have oa : ag ≠ out := nz ag (by rw [hM.2.2.2.2.2.2.2.2.2.2.2.1]; decide)
  have x8 : ∀ q, K8 q = 0 → q ≠ xm := fun q hq e => by rw [e, km8] at hq; cases hq
  have z4 : ∀ q, K8 q = 0 → K4 q = 0 := fun q hq => by
    have hne := x8 q hq
    rw [hK8, va_up_ne _ _ hne] at hq
    exact hq
  have ext1 : ∀ q, K4 q ≠ 0 → K17 q = K4 q ∧ N17 q = N4 q ∧ (∀ f, I12 f q = I4 f q) ∧ A17 q = A4 q ∧ (∀ f, R12 f q = R4 f q) ∧ Q12 q = Q4 q := fun q hq => by
    have h1 : q ≠ xm := fun e => hq (by rw [e]; exact z8)
    have h2 : K8 q ≠ 0 := by rw [hK8, va_up_ne _ _ h1]; exact hq
    obtain ⟨p1, p2, p3, p4⟩ := hold q h2
    have h3 : q ≠ out := nz q (by rw [p1]; exact h2)
    exact ⟨by rw [hK17, va_up_ne _ _ h3, p1, hK8, va_up_ne _ _ h1], by rw [hN17, va_up_ne _ _ h3, p2], fun f => by rw [i12, hI8, g_z_ne _ _ _ h1], by rw [hA17, g_zr_ne _ _ h3, p3], fun f => by rw [p4 h1 f, hR8, g_z_ne _ _ _ h1], by rw [q12]⟩
  have kmf : K17 xm = 11 := by rw [hK17, va_up_ne _ _ om]; exact km12
  have hkw : K17 w = 14 := by rw [hK17, va_up_ne _ _ ow]; exact hM.2.2.2.2.2.1
  have hks : K17 sv = 14 := by rw [hK17, va_up_ne _ _ os]; exact hM.2.2.2.2.2.2.2.1
  have hkt : K17 tx = 13 := by rw [hK17, va_up_ne _ _ ot]; exact hM.2.2.2.2.2.2.2.2.2.1
  have hka : K17 ag = 13 := by rw [hK17, va_up_ne _ _ oa]; exact hM.2.2.2.2.2.2.2.2.2.2.2.1
  have hko : K17 out = 14 := by rw [hK17, va_up_self]
  have zo8 : K8 out = 0 := Decidable.byContradiction (fun e => e ((hold out e).1.symm.trans zo))
  have hI2 : cI K17 N17 I12 A17 R12 Q12 G (lM xm w sv tx ag out) x s h hq sc sg ar sW0 0 (fun _ => 0) (fun _ => 0) 0 := hI.sup ext1 (fun q hq => Or.inr (by
    rcases hq with e | e | e | e | e | e <;> subst e
    · exact ⟨z8, by rw [kmf]; decide, by rw [kmf]; decide⟩
    · exact ⟨z4 _ zw, by rw [hkw]; decide, by rw [hkw]; decide⟩
    · exact ⟨z4 _ zsv, by rw [hks]; decide, by rw [hks]; decide⟩
    · exact ⟨z4 _ ztx, by rw [hkt]; decide, by rw [hkt]; decide⟩
    · exact ⟨z4 _ zag, by rw [hka]; decide, by rw [hka]; decide⟩
    · exact ⟨z4 _ zo8, by rw [hko]; decide, by rw [hko]; decide⟩))
  have i204 : I12 204 xm = 0 := by rw [i12, hI8, g_z_eq]
  have i205 : I12 205 xm = 0 := by rw [i12, hI8, g_z_eq]
  have aw2 : A17 w = sW0 := by rw [hA17, g_zr_ne _ _ ow]; exact aw
  have as2 : A17 sv = fun _ => 0 := by rw [hA17, g_zr_ne _ _ os]; exact asv
  have at2 : A17 tx = fun _ => 0 := by rw [hA17, g_zr_ne _ _ ot]; exact atx
  obtain ⟨m1, m2, m3, m4, m5, m6, m7, m8, m9, m10, m11, m12, m13, m14⟩ := hM
  have hL : lInv x s h hq sc sg ar xm w sv tx ag out K17 N17 I12 A17 R12 Q12 := by
    refine ⟨⟨G, ?_⟩, ⟨kmf, m2, m3, m4, m5, hkw, by rw [hN17, va_up_ne _ _ ow]; exact m7, hks, by rw [hN17, va_up_ne _ _ os]; exact m9, hkt, by rw [hN17, va_up_ne _ _ ot]; exact m11, hka, by rw [hN17, va_up_ne _ _ oa]; exact m13, m14⟩, ⟨hko, by rw [hN17, va_up_self], fun e => ow e.symm, fun e => os e.symm, hws⟩, ?_⟩
    · rw [aw2, i204, as2, at2, i205]
      exact hI2
    · rw [aw2, i204, as2, at2, i205]
      exact lOk_0
  refine g_widen (k' := 1000) (n' := 100000) (by decide) (by decide) ?_
  exact g_locs (by exact ⟨rfl, rfl, rfl, rfl, rfl, trivial⟩) (law_loop hsc 600 512 0 1000 100000 _ _ _ _ _ _ (by decide) (Int.le_refl _) (by decide) (by omega) hL (by decide) (by decide))
set_option maxHeartbeats 4000000 in
/-- YOUR PART: from the entry, for every script of at most 3072 ints, the law comes to its end with true -/
theorem whole_start {p : Program} {e : Env} {s : State} {m : MethodId} {below : List Frame} {meth : Method} {c : Code} (l : Launch) (hflags : l.flags = flags0) {b L : Nat} {xs : Nat → Int32} (hL : L ≤ 3072) (C0 : lw_At p s m meth c b L xs) : W p l e room_1 s m #[Value.ref b] below meth c s.heap [] 0 0 (lw_Z below #[Value.ref b] s) (entryFrame m ([Value.ref b] : List Value).toArray 8) := by
  obtain ⟨hx, hb, hr, hml, hown, hts, hX, hbl, hlocks, hgv, hnm⟩ := id C0
  obtain ⟨Y, y1, y2, hK, hE, hSt⟩ := lw_env l hflags hts (flat_of_before _ hgv)
  have hgood : ∀ w ∈ lw_good, w.before #[Value.ref b] s = true := fun w hw => hts w (List.mem_filter.mp hw).1
  subst y1
  have hsc : lScr (p, e, s, m, #[Value.ref b], below, meth, c) Y b L xs := ⟨hX, hbl, by rw [y2]; exact Nat.not_le.mpr hbl, hL⟩
  have hW0 : gW Y (fun _ => 0) (fun _ => 0) (fun _ _ => 0) (fun _ _ => 0) (fun _ _ => none) (fun _ _ => none) s.heap := ⟨[], fun q => by simp, fun k q h => by simp [va_pl] at h, ⟨fun i j p q h => by simp [va_pl] at h, fun k q h => by simp [va_pl] at h⟩⟩
  have hl := lv_entry ([.ref b] : List Value) (n := 8) (Nat.le_of_ble_eq_true rfl)
  have hJ := law_start (Y := Y) (X := (p, e, s, m, #[Value.ref b], below, meth, c)) hsc ⟨hx, hb, hml, hown, hgood, hK, hE, hSt, Nat.le_of_eq y2, hr, hlocks, fun hne => absurd rfl hne, hnm⟩ s.heap [] _ hW0 va_S.rf hl
  rw [lg_entry_eq]
  intro T hT XX
  obtain ⟨t, a1, b1⟩ := hJ T hT XX
  exact ⟨t, a1, lw_end (l := Y.1) y2 b1⟩
-- ===== YOUR PART ENDS =====
set_option maxHeartbeats 4000000 in
theorem lw_walk (l : Launch) (hflags : l.flags = flags0) (b : Addr) (xs : List Int32) : MetFree l x (headSpec (Jvm.Cond.code x code maxLocals ret :: tables_1) room_1) (lw_P b xs) (fun _ _ _ _ _ => True) lw_Q := by
  refine MetFree.of_bodyS (code := code) (maxLocals := maxLocals) (ret := ret) (by decide) ?_ ?_
  · intro args s m h hn
    obtain ⟨meth, c, h1, h2, h3, h4, h5, h6, -, -⟩ := Cond.code_spec hn (atoms_spec (ws := Jvm.Cond.code x code maxLocals ret :: tables_1) h _ List.mem_cons_self)
    exact ⟨meth, c, h1, h2, h3, h4, h5, h6⟩
  · intro p e s m args below meth c s₁ B hml0 hP _
    obtain ⟨rfl, hx, hbd, hgv⟩ := hP
    obtain ⟨scr, harrAt, hlist, hof, hsmall⟩ := hx
    obtain ⟨hcb, hkn, -, -⟩ := State.arrayAt?_spec harrAt
    have hown : s.vm.findClass R_law = some m.cls := findClass_of_methodNamed B.named
    have hts0 : ∀ c ∈ (Jvm.Cond.code x code maxLocals ret :: tables_1), c.before #[Value.ref b] s = true := atoms_spec (ws := Jvm.Cond.code x code maxLocals ret :: tables_1) B.pre
    have hts : ∀ w ∈ lw_tbl, w.before #[Value.ref b] s = true := k2_hts_sels lw_privs (fun w hw => hts0 w (List.mem_cons_of_mem _ hw)) lw_privs_ok
    have hml : c.maxLocals = 8 := B.maxLocals_eq (hts0 _ List.mem_cons_self)
    have X₀ : Stand p l e room_1 s m #[Value.ref b] below meth c s₁ [] 0 0 := Stand.of_body B
    have hh0 : s₁.heap = s.heap := by rw [B.state]; rfl
    have hsz : scr.slots.size = xs.length := by rw [← Array.length_toList, hlist, List.length_map]
    have hval : ∀ j : Nat, j < xs.length → scr.slots[j]? = some (.int (xs.getD j 0)) := fun j hj => by
      rw [← Array.getElem?_toList, hlist]
      simp [hj]
    have hbl : b < s.heap.size := (Array.getElem?_eq_some_iff.mp hcb).1
    have hX : va_X b xs.length (fun j => xs.getD j 0) s s.heap := ⟨scr, hcb, hof, hkn, hsz, hval⟩
    have K : W p l e room_1 s m #[Value.ref b] below meth c s₁.heap [] 0 0 (lw_Z below #[Value.ref b] s) (entryFrame m ([Value.ref b] : List Value).toArray 8) := by
      rw [hh0]
      exact whole_start l hflags hbd ⟨B.exec, B.bytes, B.returns, hml, hown, hts, hX, hbl, B.notSynchronized, hgv, (name_of_methodNamed B.named B.method).1⟩
    obtain ⟨t, a1, o, b1, b2, b3⟩ := K s₁ rfl X₀
    exact ⟨t, o, a1, b1, b2, b3⟩
theorem lw_pre_spec {args : Array Value} {s : State} (h : (Jvm.Cond.and given_1 narrow_1).before args s = true) (hr : rest_1_c.before args s = true) : ∃ (b : Addr) (xs : List Int32), lw_P b xs args s := by
  have hs := flat_of_before _ h
  have hq := flat_of_before _ hr
  have hc : (Cond.count 1).before args s = true := hs _ (by decide +kernel)
  have harr : (Cond.arrayOf (.arg 0) .int).before args s = true := hs _ (by decide +kernel)
  have hle : (Cond.le (.length (.arg 0)) (.int 3072)).before args s = true := hs _ (by decide +kernel)
  have hlen : (Cond.isInt (.length (.arg 0))).before args s = true := hq _ (by decide +kernel)
  have hall : (Cond.all (.arg 0) (.isInt (.elem (.arg 0) (.index 0)))).before args s = true := hq _ (by decide +kernel)
  obtain ⟨b, xs, hb, hx⟩ := State.ints_of_pre rfl harr hlen hall
  have hsm : xs.length < 2 ^ 31 := hx.choose_spec.2.2.2
  have hev : (Term.length (.arg 0)).eval args s none [] s = some (.int xs.length.toInt32) := hx.length_eval hb
  have hv := Cond.le_ints hev (show (Term.int 3072).eval args s none [] s = some (.int 3072) from rfl)
  have hd : xs.length.toInt32 ≤ 3072 := by
    simpa [Cond.before, Cond.holds, hv] using hle
  have hN : xs.length ≤ 3072 := (Int32.ofNat_le_ofNat hsm (by decide)).mp (show Int32.ofNat xs.length ≤ Int32.ofNat 3072 from hd)
  exact ⟨b, xs, Cond.one_arg hc (show args[0]? = some (.ref b) from hb), hx, hN, h⟩
theorem lw_comes (l : Launch) (hflags : l.flags = flags0) : Comes l x (Jvm.Cond.code x code maxLocals ret :: tables_1) room_1 (fun tb e args s => Calls_1 tb e args s ∧ rest_1 tb e args s ∧ Pre_1 tb e args s)
    (fun _ _ args s o t => lw_Q args s o t) := by
  intro p e ha hc hk s m args below hf hfit hheap happ hpre
  obtain ⟨b, xs, hP⟩ := lw_pre_spec hpre.2.2 hpre.2.1
  obtain ⟨k, o, h1, h2, h3, hQ⟩ := lw_walk l hflags b xs p e ha hc hk s m args below hf ((Spec.applies_iff_loose hf).mp happ).1 hP trivial
  exact ⟨k, o, h1, h2, h3, hQ⟩
theorem lw_frame {s t : State} {o : Outcome} {args : Array Value} (h : Framed s o t [] 668115 7091759) :
    Framed s o t (fieldLocs frame_1_writes args s ++ arrayLocs frame_1_arrays args s ++ staticLocs frame_1_statics s) 668115 7091759 := h
theorem lw_limb (L : Cond) (hL : ∀ (args : Array Value) (s t : State), L.after args s (.returned (some (.int 1))) t = true) :
    ArmFor flags0 classFile x code maxLocals ret World_1 tables_1 room_1 Calls_1 rest_1 Pre_1
      (fun tb e a s o t => postC L tb e a s o t ∧ Framed s o t (fieldLocs frame_1_writes a s ++ arrayLocs frame_1_arrays a s ++ staticLocs frame_1_statics s) 668115 7091759) := by
  intro l hflags _ _ p e ha hc hk s m args below hf hfit hheap happ hpre
  obtain ⟨k, o, h1, h2, h3, rfl, hF⟩ := lw_comes l hflags p e ha hc hk s m args below hf hfit hheap happ hpre
  exact ⟨k, _, h1, h2, h3, hL args s _, lw_frame hF⟩
theorem i_vc : Claimed_1_1 ∧ Claimed_1_2 := ⟨lw_limb limb_1_1 (fun args s t => by simp [limb_1_1, Cond.after, Cond.holds, Cond.value]), lw_limb limb_1_2 (fun args s t => Cond.after_iff.mpr (by
  first | (rw [show limb_1_2 = Cond.eq .result (.int 1) from rfl, Cond.eq_ints (x := 1) (y := 1) rfl rfl]; simp; done) | (simp [limb_1_2, Cond.value, Term.eval]; done)))⟩
