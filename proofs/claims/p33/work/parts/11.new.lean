theorem gK0 {K : Nat → Nat} {q i : Nat} (h : K q = i + 1) : K q ≠ 0 := by rw [h]; exact Nat.succ_ne_zero i
/-- a cell's numbers (references, rows) wiped -/
def g_z {α β : Type} (f : α → Nat → β) (q : Nat) (v : β) : α → Nat → β := fun a b => if b = q then v else f a b
def g_zr {α β : Type} (f : Nat → α → β) (q : Nat) (v : β) : Nat → α → β := fun b a => if b = q then v else f b a
theorem g_z_ne {α β : Type} (f : α → Nat → β) {q b : Nat} (v : β) (a : α) (h : b ≠ q) : g_z f q v a b = f a b := by simp [g_z, h]
theorem g_zr_ne {α β : Type} (f : Nat → α → β) {q b : Nat} (v : β) (h : b ≠ q) : g_zr f q v b = f b := by funext a; simp [g_zr, h]
theorem g_z_eq {α β : Type} (f : α → Nat → β) (q : Nat) (v : β) (a : α) : g_z f q v a q = v := by simp [g_z]
theorem g_zr_eq {α β : Type} (f : Nat → α → β) (q : Nat) (v : β) (a : α) : g_zr f q v q a = v := by simp [g_zr]
theorem va_fresh {A : Nat → Prop} {L : List Nat} {f : Nat → va_E} {q : Nat} {e : va_E} (hD : va_D A ([] ++ va_pl L f ++ [(q, e)])) : q ∉ L := by
  intro hm
  obtain ⟨j, hj⟩ := va_pl_get (X := []) (f := f) hm
  have hl := (List.getElem?_eq_some_iff.mp hj).1
  have h1 : ([] ++ va_pl L f ++ [(q, e)])[j]? = some (q, f q) := by rw [List.getElem?_append_left hl]; exact hj
  have h2 : ([] ++ va_pl L f ++ [(q, e)])[([] ++ va_pl L f).length]? = some (q, e) := by rw [List.getElem?_append_right (Nat.le_refl _), Nat.sub_self]; rfl
  have := hD.1 _ _ _ _ h1 h2 rfl
  omega
section GN
variable {Y : gEnv} {X : gCtx} {y : MethodName} {cc : ByteArray} {nL : Nat} {ret : Option FieldType} {rm : Room} {po : gPo} {px : gPx} {k n pc : Nat} {L : List (Nat × Value)} {st : List Value} {K N : Nat → Nat} {I : Nat → Nat → Int} {A : Nat → Int → Int} {R : Nat → Nat → Option Nat} {Q : Nat → Int → Option Nat}
theorem gW_push {K' N' : Nat → Nat} {I' : Nat → Nat → Int} {A' : Nat → Int → Int} {R' : Nat → Nat → Option Nat} {Q' : Nat → Int → Option Nat} {Ls : List Nat} {q : Nat} {e : va_E} {H1 : Heap} (hL : ∀ q, q ∈ Ls ↔ K q ≠ 0)
    (hP : va_P Y.2.1 vwCl ([] ++ va_pl Ls (g_cell Y.2.2.1 K N I A R Q) ++ [(q, e)]) H1) (hD : va_D (fun q => Y.2.2.2 ≤ q) ([] ++ va_pl Ls (g_cell Y.2.2.1 K N I A R Q) ++ [(q, e)])) (hK' : ∀ b, b ≠ q → K' b = K b) (hq : K' q ≠ 0) (he : g_cell Y.2.2.1 K' N' I' A' R' Q' q = e) (hne : ∀ b, b ≠ q → g_cell Y.2.2.1 K' N' I' A' R' Q' b = g_cell Y.2.2.1 K N I A R Q b) : gW Y K' N' I' A' R' Q' H1 := by
  have hf := va_fresh hD
  have e1 : [] ++ va_pl Ls (g_cell Y.2.2.1 K N I A R Q) ++ [(q, e)] = [] ++ va_pl (Ls ++ [q]) (g_cell Y.2.2.1 K' N' I' A' R' Q') := by
    rw [List.nil_append, List.nil_append, va_pl_push hf]
    refine va_pl_congr (fun b => ?_)
    by_cases hb : b = q
    · subst hb; rw [va_up_self, he]
    · rw [va_up_ne _ _ hb, hne b hb]
  rw [e1] at hP hD
  refine ⟨Ls ++ [q], fun b => ?_, hP, hD⟩
  rw [List.mem_append, List.mem_singleton, hL b]
  by_cases hb : b = q
  · subst hb; simp [hq]
  · rw [hK' b hb]; simp [hb]
theorem gW_new0 {Ls : List Nat} {q : Nat} {e : va_E} (hL : ∀ q, q ∈ Ls ↔ K q ≠ 0) (hD : va_D (fun q => Y.2.2.2 ≤ q) ([] ++ va_pl Ls (g_cell Y.2.2.1 K N I A R Q) ++ [(q, e)])) : K q = 0 := Decidable.byContradiction (fun h => va_fresh hD ((hL q).mpr h))
theorem g_new_Delivery {idx : Nat} (hd : decode cc pc = .ok (.new idx, 3)) (hw : Cond.classLink y.cls idx RX1 ∈ lw_good) (hw2 : Cond.instantiable RX1 5 ∈ lw_good) (hw3 : Cond.initialized RX1 ∈ lw_good) (hk : k + 1 ≤ rm.cells) (hn : n + 5 ≤ rm.slots)
    (kk : ∀ (q : Nat) (K' : Nat → Nat) (I' : Nat → Nat → Int) (R' : Nat → Nat → Option Nat), K q = 0 → K' = va_up K q 1 → I' = g_z I q 0 → R' = g_z R q none → gJ Y X y cc nL ret rm po px (k + 1) (n + 5) (pc + 3) L (.ref q :: st) K' N I' A R' Q) : gJ Y X y cc nL ret rm po px k n pc L st K N I A R Q := by
  intro hx H locs ls hW hS hl
  obtain ⟨Ls, hL, hP, hD⟩ := hW
  refine va_new (C := RX1) (T := TX1) (N := 5) (ci := 0) (fs := [.int 0, .int 0, .int 0, .int 0, .long 0]) hx.1 hx.2.1 hx.2.2.2.2.1 lg_in0 tyX1 tyX1_ok hx.2.2.2.1 (hx.2.2.2.2.1 _ hw) (hx.2.2.2.2.1 _ hw2) (hx.2.2.2.2.1 _ hw3) hx.2.2.2.2.2.1 hP hD hS (fun q hq => Nat.le_trans hx.2.2.2.2.2.2.2.2.1 hq) rfl (by decide +kernel) hk hn hd (fun q H1 hP1 hD1 hS1 => ?_)
  refine kk q _ _ _ (gW_new0 hL hD1) rfl rfl rfl hx H1 locs ls (gW_push hL hP1 hD1 (fun b hb => va_up_ne _ _ hb) (by rw [va_up_self]; decide) ?_ (fun b hb => g_cell_congr (va_up_ne _ _ hb) rfl (fun f => g_z_ne _ _ _ hb) rfl (fun f => g_z_ne _ _ _ hb) rfl)) hS1 hl
  rw [g_at0 (va_up_self _ _ _)]
  simp only [g_f0, g_z_eq, va_rf]
  all_goals rfl
theorem g_new_EventLog {idx : Nat} (hd : decode cc pc = .ok (.new idx, 3)) (hw : Cond.classLink y.cls idx RX2 ∈ lw_good) (hw2 : Cond.instantiable RX2 3 ∈ lw_good) (hw3 : Cond.initialized RX2 ∈ lw_good) (hk : k + 1 ≤ rm.cells) (hn : n + 3 ≤ rm.slots)
    (kk : ∀ (q : Nat) (K' : Nat → Nat) (I' : Nat → Nat → Int) (R' : Nat → Nat → Option Nat), K q = 0 → K' = va_up K q 2 → I' = g_z I q 0 → R' = g_z R q none → gJ Y X y cc nL ret rm po px (k + 1) (n + 3) (pc + 3) L (.ref q :: st) K' N I' A R' Q) : gJ Y X y cc nL ret rm po px k n pc L st K N I A R Q := by
  intro hx H locs ls hW hS hl
  obtain ⟨Ls, hL, hP, hD⟩ := hW
  refine va_new (C := RX2) (T := TX2) (N := 3) (ci := 1) (fs := [.null, .null, .int 0]) hx.1 hx.2.1 hx.2.2.2.2.1 lg_in1 tyX2 tyX2_ok hx.2.2.2.1 (hx.2.2.2.2.1 _ hw) (hx.2.2.2.2.1 _ hw2) (hx.2.2.2.2.1 _ hw3) hx.2.2.2.2.2.1 hP hD hS (fun q hq => Nat.le_trans hx.2.2.2.2.2.2.2.2.1 hq) rfl (by decide +kernel) hk hn hd (fun q H1 hP1 hD1 hS1 => ?_)
  refine kk q _ _ _ (gW_new0 hL hD1) rfl rfl rfl hx H1 locs ls (gW_push hL hP1 hD1 (fun b hb => va_up_ne _ _ hb) (by rw [va_up_self]; decide) ?_ (fun b hb => g_cell_congr (va_up_ne _ _ hb) rfl (fun f => g_z_ne _ _ _ hb) rfl (fun f => g_z_ne _ _ _ hb) rfl)) hS1 hl
  rw [g_at1 (va_up_self _ _ _)]
  simp only [g_f1, g_z_eq, va_rf]
  all_goals rfl
theorem g_new_Glaze {idx : Nat} (hd : decode cc pc = .ok (.new idx, 3)) (hw : Cond.classLink y.cls idx RX4 ∈ lw_good) (hw2 : Cond.instantiable RX4 4 ∈ lw_good) (hw3 : Cond.initialized RX4 ∈ lw_good) (hk : k + 1 ≤ rm.cells) (hn : n + 4 ≤ rm.slots)
    (kk : ∀ (q : Nat) (K' : Nat → Nat) (I' : Nat → Nat → Int) (R' : Nat → Nat → Option Nat), K q = 0 → K' = va_up K q 3 → I' = g_z I q 0 → R' = g_z R q none → gJ Y X y cc nL ret rm po px (k + 1) (n + 4) (pc + 3) L (.ref q :: st) K' N I' A R' Q) : gJ Y X y cc nL ret rm po px k n pc L st K N I A R Q := by
  intro hx H locs ls hW hS hl
  obtain ⟨Ls, hL, hP, hD⟩ := hW
  refine va_new (C := RX4) (T := TX4) (N := 4) (ci := 2) (fs := [.int 0, .int 0, .int 0, .int 0]) hx.1 hx.2.1 hx.2.2.2.2.1 lg_in2 tyX4 tyX4_ok hx.2.2.2.1 (hx.2.2.2.2.1 _ hw) (hx.2.2.2.2.1 _ hw2) (hx.2.2.2.2.1 _ hw3) hx.2.2.2.2.2.1 hP hD hS (fun q hq => Nat.le_trans hx.2.2.2.2.2.2.2.2.1 hq) rfl (by decide +kernel) hk hn hd (fun q H1 hP1 hD1 hS1 => ?_)
  refine kk q _ _ _ (gW_new0 hL hD1) rfl rfl rfl hx H1 locs ls (gW_push hL hP1 hD1 (fun b hb => va_up_ne _ _ hb) (by rw [va_up_self]; decide) ?_ (fun b hb => g_cell_congr (va_up_ne _ _ hb) rfl (fun f => g_z_ne _ _ _ hb) rfl (fun f => g_z_ne _ _ _ hb) rfl)) hS1 hl
  rw [g_at2 (va_up_self _ _ _)]
  simp only [g_f2, g_z_eq, va_rf]
  all_goals rfl
theorem g_new_History {idx : Nat} (hd : decode cc pc = .ok (.new idx, 3)) (hw : Cond.classLink y.cls idx RX5 ∈ lw_good) (hw2 : Cond.instantiable RX5 2 ∈ lw_good) (hw3 : Cond.initialized RX5 ∈ lw_good) (hk : k + 1 ≤ rm.cells) (hn : n + 2 ≤ rm.slots)
    (kk : ∀ (q : Nat) (K' : Nat → Nat) (I' : Nat → Nat → Int) (R' : Nat → Nat → Option Nat), K q = 0 → K' = va_up K q 4 → I' = g_z I q 0 → R' = g_z R q none → gJ Y X y cc nL ret rm po px (k + 1) (n + 2) (pc + 3) L (.ref q :: st) K' N I' A R' Q) : gJ Y X y cc nL ret rm po px k n pc L st K N I A R Q := by
  intro hx H locs ls hW hS hl
  obtain ⟨Ls, hL, hP, hD⟩ := hW
  refine va_new (C := RX5) (T := TX5) (N := 2) (ci := 3) (fs := [.null, .int 0]) hx.1 hx.2.1 hx.2.2.2.2.1 lg_in3 tyX5 tyX5_ok hx.2.2.2.1 (hx.2.2.2.2.1 _ hw) (hx.2.2.2.2.1 _ hw2) (hx.2.2.2.2.1 _ hw3) hx.2.2.2.2.2.1 hP hD hS (fun q hq => Nat.le_trans hx.2.2.2.2.2.2.2.2.1 hq) rfl (by decide +kernel) hk hn hd (fun q H1 hP1 hD1 hS1 => ?_)
  refine kk q _ _ _ (gW_new0 hL hD1) rfl rfl rfl hx H1 locs ls (gW_push hL hP1 hD1 (fun b hb => va_up_ne _ _ hb) (by rw [va_up_self]; decide) ?_ (fun b hb => g_cell_congr (va_up_ne _ _ hb) rfl (fun f => g_z_ne _ _ _ hb) rfl (fun f => g_z_ne _ _ _ hb) rfl)) hS1 hl
  rw [g_at3 (va_up_self _ _ _)]
  simp only [g_f3, g_z_eq, va_rf]
  all_goals rfl
theorem g_new_Lot {idx : Nat} (hd : decode cc pc = .ok (.new idx, 3)) (hw : Cond.classLink y.cls idx RX6 ∈ lw_good) (hw2 : Cond.instantiable RX6 6 ∈ lw_good) (hw3 : Cond.initialized RX6 ∈ lw_good) (hk : k + 1 ≤ rm.cells) (hn : n + 6 ≤ rm.slots)
    (kk : ∀ (q : Nat) (K' : Nat → Nat) (I' : Nat → Nat → Int) (R' : Nat → Nat → Option Nat), K q = 0 → K' = va_up K q 5 → I' = g_z I q 0 → R' = g_z R q none → gJ Y X y cc nL ret rm po px (k + 1) (n + 6) (pc + 3) L (.ref q :: st) K' N I' A R' Q) : gJ Y X y cc nL ret rm po px k n pc L st K N I A R Q := by
  intro hx H locs ls hW hS hl
  obtain ⟨Ls, hL, hP, hD⟩ := hW
  refine va_new (C := RX6) (T := TX6) (N := 6) (ci := 4) (fs := [.int 0, .int 0, .int 0, .int 0, .int 0, .int 0]) hx.1 hx.2.1 hx.2.2.2.2.1 lg_in4 tyX6 tyX6_ok hx.2.2.2.1 (hx.2.2.2.2.1 _ hw) (hx.2.2.2.2.1 _ hw2) (hx.2.2.2.2.1 _ hw3) hx.2.2.2.2.2.1 hP hD hS (fun q hq => Nat.le_trans hx.2.2.2.2.2.2.2.2.1 hq) rfl (by decide +kernel) hk hn hd (fun q H1 hP1 hD1 hS1 => ?_)
  refine kk q _ _ _ (gW_new0 hL hD1) rfl rfl rfl hx H1 locs ls (gW_push hL hP1 hD1 (fun b hb => va_up_ne _ _ hb) (by rw [va_up_self]; decide) ?_ (fun b hb => g_cell_congr (va_up_ne _ _ hb) rfl (fun f => g_z_ne _ _ _ hb) rfl (fun f => g_z_ne _ _ _ hb) rfl)) hS1 hl
  rw [g_at4 (va_up_self _ _ _)]
  simp only [g_f4, g_z_eq, va_rf]
  all_goals rfl
theorem g_new_Pile {idx : Nat} (hd : decode cc pc = .ok (.new idx, 3)) (hw : Cond.classLink y.cls idx RX7 ∈ lw_good) (hw2 : Cond.instantiable RX7 4 ∈ lw_good) (hw3 : Cond.initialized RX7 ∈ lw_good) (hk : k + 1 ≤ rm.cells) (hn : n + 4 ≤ rm.slots)
    (kk : ∀ (q : Nat) (K' : Nat → Nat) (I' : Nat → Nat → Int) (R' : Nat → Nat → Option Nat), K q = 0 → K' = va_up K q 6 → I' = g_z I q 0 → R' = g_z R q none → gJ Y X y cc nL ret rm po px (k + 1) (n + 4) (pc + 3) L (.ref q :: st) K' N I' A R' Q) : gJ Y X y cc nL ret rm po px k n pc L st K N I A R Q := by
  intro hx H locs ls hW hS hl
  obtain ⟨Ls, hL, hP, hD⟩ := hW
  refine va_new (C := RX7) (T := TX7) (N := 4) (ci := 5) (fs := [.int 0, .int 0, .int 0, .int 0]) hx.1 hx.2.1 hx.2.2.2.2.1 lg_in5 tyX7 tyX7_ok hx.2.2.2.1 (hx.2.2.2.2.1 _ hw) (hx.2.2.2.2.1 _ hw2) (hx.2.2.2.2.1 _ hw3) hx.2.2.2.2.2.1 hP hD hS (fun q hq => Nat.le_trans hx.2.2.2.2.2.2.2.2.1 hq) rfl (by decide +kernel) hk hn hd (fun q H1 hP1 hD1 hS1 => ?_)
  refine kk q _ _ _ (gW_new0 hL hD1) rfl rfl rfl hx H1 locs ls (gW_push hL hP1 hD1 (fun b hb => va_up_ne _ _ hb) (by rw [va_up_self]; decide) ?_ (fun b hb => g_cell_congr (va_up_ne _ _ hb) rfl (fun f => g_z_ne _ _ _ hb) rfl (fun f => g_z_ne _ _ _ hb) rfl)) hS1 hl
  rw [g_at5 (va_up_self _ _ _)]
  simp only [g_f5, g_z_eq, va_rf]
  all_goals rfl
theorem g_new_Position {idx : Nat} (hd : decode cc pc = .ok (.new idx, 3)) (hw : Cond.classLink y.cls idx RX8 ∈ lw_good) (hw2 : Cond.instantiable RX8 4 ∈ lw_good) (hw3 : Cond.initialized RX8 ∈ lw_good) (hk : k + 1 ≤ rm.cells) (hn : n + 4 ≤ rm.slots)
    (kk : ∀ (q : Nat) (K' : Nat → Nat) (I' : Nat → Nat → Int) (R' : Nat → Nat → Option Nat), K q = 0 → K' = va_up K q 7 → I' = g_z I q 0 → R' = g_z R q none → gJ Y X y cc nL ret rm po px (k + 1) (n + 4) (pc + 3) L (.ref q :: st) K' N I' A R' Q) : gJ Y X y cc nL ret rm po px k n pc L st K N I A R Q := by
  intro hx H locs ls hW hS hl
  obtain ⟨Ls, hL, hP, hD⟩ := hW
  refine va_new (C := RX8) (T := TX8) (N := 4) (ci := 6) (fs := [.int 0, .int 0, .int 0, .int 0]) hx.1 hx.2.1 hx.2.2.2.2.1 lg_in6 tyX8 tyX8_ok hx.2.2.2.1 (hx.2.2.2.2.1 _ hw) (hx.2.2.2.2.1 _ hw2) (hx.2.2.2.2.1 _ hw3) hx.2.2.2.2.2.1 hP hD hS (fun q hq => Nat.le_trans hx.2.2.2.2.2.2.2.2.1 hq) rfl (by decide +kernel) hk hn hd (fun q H1 hP1 hD1 hS1 => ?_)
  refine kk q _ _ _ (gW_new0 hL hD1) rfl rfl rfl hx H1 locs ls (gW_push hL hP1 hD1 (fun b hb => va_up_ne _ _ hb) (by rw [va_up_self]; decide) ?_ (fun b hb => g_cell_congr (va_up_ne _ _ hb) rfl (fun f => g_z_ne _ _ _ hb) rfl (fun f => g_z_ne _ _ _ hb) rfl)) hS1 hl
  rw [g_at6 (va_up_self _ _ _)]
  simp only [g_f6, g_z_eq, va_rf]
  all_goals rfl
theorem g_new_Script {idx : Nat} (hd : decode cc pc = .ok (.new idx, 3)) (hw : Cond.classLink y.cls idx RX9 ∈ lw_good) (hw2 : Cond.instantiable RX9 7 ∈ lw_good) (hw3 : Cond.initialized RX9 ∈ lw_good) (hk : k + 1 ≤ rm.cells) (hn : n + 7 ≤ rm.slots)
    (kk : ∀ (q : Nat) (K' : Nat → Nat) (I' : Nat → Nat → Int) (R' : Nat → Nat → Option Nat), K q = 0 → K' = va_up K q 8 → I' = g_z I q 0 → R' = g_z R q none → gJ Y X y cc nL ret rm po px (k + 1) (n + 7) (pc + 3) L (.ref q :: st) K' N I' A R' Q) : gJ Y X y cc nL ret rm po px k n pc L st K N I A R Q := by
  intro hx H locs ls hW hS hl
  obtain ⟨Ls, hL, hP, hD⟩ := hW
  refine va_new (C := RX9) (T := TX9) (N := 7) (ci := 7) (fs := [.null, .int 0, .int 0, .int 0, .int 0, .null, .null]) hx.1 hx.2.1 hx.2.2.2.2.1 lg_in7 tyX9 tyX9_ok hx.2.2.2.1 (hx.2.2.2.2.1 _ hw) (hx.2.2.2.2.1 _ hw2) (hx.2.2.2.2.1 _ hw3) hx.2.2.2.2.2.1 hP hD hS (fun q hq => Nat.le_trans hx.2.2.2.2.2.2.2.2.1 hq) rfl (by decide +kernel) hk hn hd (fun q H1 hP1 hD1 hS1 => ?_)
  refine kk q _ _ _ (gW_new0 hL hD1) rfl rfl rfl hx H1 locs ls (gW_push hL hP1 hD1 (fun b hb => va_up_ne _ _ hb) (by rw [va_up_self]; decide) ?_ (fun b hb => g_cell_congr (va_up_ne _ _ hb) rfl (fun f => g_z_ne _ _ _ hb) rfl (fun f => g_z_ne _ _ _ hb) rfl)) hS1 hl
  rw [g_at7 (va_up_self _ _ _)]
  simp only [g_f7, g_z_eq, va_rf]
  all_goals rfl
theorem g_new_State {idx : Nat} (hd : decode cc pc = .ok (.new idx, 3)) (hw : Cond.classLink y.cls idx RX10 ∈ lw_good) (hw2 : Cond.instantiable RX10 14 ∈ lw_good) (hw3 : Cond.initialized RX10 ∈ lw_good) (hk : k + 1 ≤ rm.cells) (hn : n + 14 ≤ rm.slots)
    (kk : ∀ (q : Nat) (K' : Nat → Nat) (I' : Nat → Nat → Int) (R' : Nat → Nat → Option Nat), K q = 0 → K' = va_up K q 9 → I' = g_z I q 0 → R' = g_z R q none → gJ Y X y cc nL ret rm po px (k + 1) (n + 14) (pc + 3) L (.ref q :: st) K' N I' A R' Q) : gJ Y X y cc nL ret rm po px k n pc L st K N I A R Q := by
  intro hx H locs ls hW hS hl
  obtain ⟨Ls, hL, hP, hD⟩ := hW
  refine va_new (C := RX10) (T := TX10) (N := 14) (ci := 8) (fs := [.null, .null, .null, .null, .null, .null, .int 0, .int 0, .int 0, .int 0, .int 0, .int 0, .int 0, .int 0]) hx.1 hx.2.1 hx.2.2.2.2.1 lg_in8 tyX10 tyX10_ok hx.2.2.2.1 (hx.2.2.2.2.1 _ hw) (hx.2.2.2.2.1 _ hw2) (hx.2.2.2.2.1 _ hw3) hx.2.2.2.2.2.1 hP hD hS (fun q hq => Nat.le_trans hx.2.2.2.2.2.2.2.2.1 hq) rfl (by decide +kernel) hk hn hd (fun q H1 hP1 hD1 hS1 => ?_)
  refine kk q _ _ _ (gW_new0 hL hD1) rfl rfl rfl hx H1 locs ls (gW_push hL hP1 hD1 (fun b hb => va_up_ne _ _ hb) (by rw [va_up_self]; decide) ?_ (fun b hb => g_cell_congr (va_up_ne _ _ hb) rfl (fun f => g_z_ne _ _ _ hb) rfl (fun f => g_z_ne _ _ _ hb) rfl)) hS1 hl
  rw [g_at8 (va_up_self _ _ _)]
  simp only [g_f8, g_z_eq, va_rf]
  all_goals rfl
theorem g_new_TileFactory {idx : Nat} (hd : decode cc pc = .ok (.new idx, 3)) (hw : Cond.classLink y.cls idx RX12 ∈ lw_good) (hw2 : Cond.instantiable RX12 3 ∈ lw_good) (hw3 : Cond.initialized RX12 ∈ lw_good) (hk : k + 1 ≤ rm.cells) (hn : n + 3 ≤ rm.slots)
    (kk : ∀ (q : Nat) (K' : Nat → Nat) (I' : Nat → Nat → Int) (R' : Nat → Nat → Option Nat), K q = 0 → K' = va_up K q 10 → I' = g_z I q 0 → R' = g_z R q none → gJ Y X y cc nL ret rm po px (k + 1) (n + 3) (pc + 3) L (.ref q :: st) K' N I' A R' Q) : gJ Y X y cc nL ret rm po px k n pc L st K N I A R Q := by
  intro hx H locs ls hW hS hl
  obtain ⟨Ls, hL, hP, hD⟩ := hW
  refine va_new (C := RX12) (T := TX12) (N := 3) (ci := 9) (fs := [.null, .null, .null]) hx.1 hx.2.1 hx.2.2.2.2.1 lg_in9 tyX12 tyX12_ok hx.2.2.2.1 (hx.2.2.2.2.1 _ hw) (hx.2.2.2.2.1 _ hw2) (hx.2.2.2.2.1 _ hw3) hx.2.2.2.2.2.1 hP hD hS (fun q hq => Nat.le_trans hx.2.2.2.2.2.2.2.2.1 hq) rfl (by decide +kernel) hk hn hd (fun q H1 hP1 hD1 hS1 => ?_)
  refine kk q _ _ _ (gW_new0 hL hD1) rfl rfl rfl hx H1 locs ls (gW_push hL hP1 hD1 (fun b hb => va_up_ne _ _ hb) (by rw [va_up_self]; decide) ?_ (fun b hb => g_cell_congr (va_up_ne _ _ hb) rfl (fun f => g_z_ne _ _ _ hb) rfl (fun f => g_z_ne _ _ _ hb) rfl)) hS1 hl
  rw [g_at9 (va_up_self _ _ _)]
  simp only [g_f9, g_z_eq, va_rf]
  all_goals rfl
theorem g_newa_c {z : Int} {m : Nat} (hd : decode cc pc = .ok (.newarray .char, 2)) (hw : Cond.arrayClass .char ∈ lw_good) (hz : z = m) (hm : m ≤ 1000000) (hk : k + 1 ≤ rm.cells) (hn : n + m ≤ rm.slots)
    (kk : ∀ (q : Nat) (K' N' : Nat → Nat) (A' : Nat → Int → Int), K q = 0 → K' = va_up K q 12 → N' = va_up N q m → A' = g_zr A q 0 → gJ Y X y cc nL ret rm po px (k + 1) (n + m) (pc + 2) L (.ref q :: st) K' N' I A' R Q) : gJ Y X y cc nL ret rm po px k n pc L (vi z :: st) K N I A R Q := by
  intro hx H locs ls hW hS hl
  obtain ⟨Ls, hL, hP, hD⟩ := hW
  subst hz
  have hc := i32_nat (z := (m : Int)) ⟨by omega, by omega⟩
  refine va_newa (atype := .char) (ty := .char) (N' := m) (a0 := (m, .inl (fun _ => 0))) hx.1 hx.2.1 (hx.2.2.2.2.1 _ hw) rfl hx.2.2.2.2.2.1 hP hD hS (fun q hq => Nat.le_trans hx.2.2.2.2.2.2.2.2.1 hq) (fun _ => rfl) (by rw [i32_0, i32_lt (by omega) (by omega)]; omega) (by rw [hc]; omega) (by show m * 2 ≤ 536870912; omega) hk hn hd (fun q cA H1 hK1 hP1 hD1 hS1 => ?_)
  have hcy : cA = Y.2.2.1 0 := by
    have h1 := (hK1.2 9 (cA, .char) rfl).2
    have h2 := (hK1.2 0 (Y.2.2.1 0, .char) rfl).2
    exact Option.some.inj (h1.symm.trans h2)
  subst hcy
  refine kk q _ _ _ (gW_new0 hL hD1) rfl rfl rfl hx H1 locs ls (gW_push hL hP1 hD1 (fun b hb => va_up_ne _ _ hb) (by rw [va_up_self]; decide) ?_ (fun b hb => g_cell_congr (va_up_ne _ _ hb) (va_up_ne _ _ hb) (fun f => rfl) (g_zr_ne _ _ hb) (fun f => rfl) rfl)) hS1 hl
  rw [g_ar0 (va_up_self _ _ _), va_up_self]
  simp only [g_zr_eq]
  all_goals rfl
theorem g_newa_i {z : Int} {m : Nat} (hd : decode cc pc = .ok (.newarray .int, 2)) (hw : Cond.arrayClass .int ∈ lw_good) (hz : z = m) (hm : m ≤ 1000000) (hk : k + 1 ≤ rm.cells) (hn : n + m ≤ rm.slots)
    (kk : ∀ (q : Nat) (K' N' : Nat → Nat) (A' : Nat → Int → Int), K q = 0 → K' = va_up K q 13 → N' = va_up N q m → A' = g_zr A q 0 → gJ Y X y cc nL ret rm po px (k + 1) (n + m) (pc + 2) L (.ref q :: st) K' N' I A' R Q) : gJ Y X y cc nL ret rm po px k n pc L (vi z :: st) K N I A R Q := by
  intro hx H locs ls hW hS hl
  obtain ⟨Ls, hL, hP, hD⟩ := hW
  subst hz
  have hc := i32_nat (z := (m : Int)) ⟨by omega, by omega⟩
  refine va_newa (atype := .int) (ty := .int) (N' := m) (a0 := (m, .inl (fun _ => 0))) hx.1 hx.2.1 (hx.2.2.2.2.1 _ hw) rfl hx.2.2.2.2.2.1 hP hD hS (fun q hq => Nat.le_trans hx.2.2.2.2.2.2.2.2.1 hq) (fun _ => rfl) (by rw [i32_0, i32_lt (by omega) (by omega)]; omega) (by rw [hc]; omega) (by show m * 4 ≤ 536870912; omega) hk hn hd (fun q cA H1 hK1 hP1 hD1 hS1 => ?_)
  have hcy : cA = Y.2.2.1 1 := by
    have h1 := (hK1.2 9 (cA, .int) rfl).2
    have h2 := (hK1.2 1 (Y.2.2.1 1, .int) rfl).2
    exact Option.some.inj (h1.symm.trans h2)
  subst hcy
  refine kk q _ _ _ (gW_new0 hL hD1) rfl rfl rfl hx H1 locs ls (gW_push hL hP1 hD1 (fun b hb => va_up_ne _ _ hb) (by rw [va_up_self]; decide) ?_ (fun b hb => g_cell_congr (va_up_ne _ _ hb) (va_up_ne _ _ hb) (fun f => rfl) (g_zr_ne _ _ hb) (fun f => rfl) rfl)) hS1 hl
  rw [g_ar1 (va_up_self _ _ _), va_up_self]
  simp only [g_zr_eq]
  all_goals rfl
theorem g_newq_Delivery {idx m : Nat} {z : Int} (hd : decode cc pc = .ok (.anewarray idx, 3)) (hw : Cond.classLink y.cls idx "TileFactory$Delivery" ∈ lw_good) (hz : z = m) (hm : m ≤ 1000000) (hk : k + 1 ≤ rm.cells) (hn : n + m ≤ rm.slots)
    (kk : ∀ (q : Nat) (K' N' : Nat → Nat) (Q' : Nat → Int → Option Nat), K q = 0 → K' = va_up K q 15 → N' = va_up N q m → Q' = g_zr Q q none → gJ Y X y cc nL ret rm po px (k + 1) (n + m) (pc + 3) L (.ref q :: st) K' N' I A R Q') : gJ Y X y cc nL ret rm po px k n pc L (vi z :: st) K N I A R Q := by
  intro hx H locs ls hW hS hl
  obtain ⟨Ls, hL, hP, hD⟩ := hW
  subst hz
  have hc := i32_nat (z := (m : Int)) ⟨by omega, by omega⟩
  refine va_newq (C := "TileFactory$Delivery") (N' := m) hx.1 hx.2.1 hx.2.2.2.1 (hx.2.2.2.2.1 _ hw) hx.2.2.2.2.2.2.1.2.1 hx.2.2.2.2.2.1 hP hD hS (fun q hq => Nat.le_trans hx.2.2.2.2.2.2.2.2.1 hq) (by rw [i32_0, i32_lt (by omega) (by omega)]; omega) (by rw [hc]; omega) (by omega) hk hn hd (fun q cA H1 hK1 hP1 hD1 hS1 => ?_)
  have hcy : cA = Y.2.2.1 3 := by
    obtain ⟨_, _, -, -, -, h1⟩ := (hK1.2 9 (cA, .object "TileFactory$Delivery") rfl).2
    obtain ⟨_, _, -, -, -, h2⟩ := (hK1.2 3 (Y.2.2.1 3, .object "TileFactory$Delivery") rfl).2
    exact Option.some.inj (h1.symm.trans h2)
  subst hcy
  refine kk q _ _ _ (gW_new0 hL hD1) rfl rfl rfl hx H1 locs ls (gW_push hL hP1 hD1 (fun b hb => va_up_ne _ _ hb) (by rw [va_up_self]; decide) ?_ (fun b hb => g_cell_congr (va_up_ne _ _ hb) (va_up_ne _ _ hb) (fun f => rfl) rfl (fun f => rfl) (g_zr_ne _ _ hb))) hS1 hl
  rw [g_ar3 (va_up_self _ _ _), va_up_self]
  simp only [g_zr_eq]
theorem g_newq_Glaze {idx m : Nat} {z : Int} (hd : decode cc pc = .ok (.anewarray idx, 3)) (hw : Cond.classLink y.cls idx "TileFactory$Glaze" ∈ lw_good) (hz : z = m) (hm : m ≤ 1000000) (hk : k + 1 ≤ rm.cells) (hn : n + m ≤ rm.slots)
    (kk : ∀ (q : Nat) (K' N' : Nat → Nat) (Q' : Nat → Int → Option Nat), K q = 0 → K' = va_up K q 16 → N' = va_up N q m → Q' = g_zr Q q none → gJ Y X y cc nL ret rm po px (k + 1) (n + m) (pc + 3) L (.ref q :: st) K' N' I A R Q') : gJ Y X y cc nL ret rm po px k n pc L (vi z :: st) K N I A R Q := by
  intro hx H locs ls hW hS hl
  obtain ⟨Ls, hL, hP, hD⟩ := hW
  subst hz
  have hc := i32_nat (z := (m : Int)) ⟨by omega, by omega⟩
  refine va_newq (C := "TileFactory$Glaze") (N' := m) hx.1 hx.2.1 hx.2.2.2.1 (hx.2.2.2.2.1 _ hw) hx.2.2.2.2.2.2.1.2.2.1 hx.2.2.2.2.2.1 hP hD hS (fun q hq => Nat.le_trans hx.2.2.2.2.2.2.2.2.1 hq) (by rw [i32_0, i32_lt (by omega) (by omega)]; omega) (by rw [hc]; omega) (by omega) hk hn hd (fun q cA H1 hK1 hP1 hD1 hS1 => ?_)
  have hcy : cA = Y.2.2.1 4 := by
    obtain ⟨_, _, -, -, -, h1⟩ := (hK1.2 9 (cA, .object "TileFactory$Glaze") rfl).2
    obtain ⟨_, _, -, -, -, h2⟩ := (hK1.2 4 (Y.2.2.1 4, .object "TileFactory$Glaze") rfl).2
    exact Option.some.inj (h1.symm.trans h2)
  subst hcy
  refine kk q _ _ _ (gW_new0 hL hD1) rfl rfl rfl hx H1 locs ls (gW_push hL hP1 hD1 (fun b hb => va_up_ne _ _ hb) (by rw [va_up_self]; decide) ?_ (fun b hb => g_cell_congr (va_up_ne _ _ hb) (va_up_ne _ _ hb) (fun f => rfl) rfl (fun f => rfl) (g_zr_ne _ _ hb))) hS1 hl
  rw [g_ar4 (va_up_self _ _ _), va_up_self]
  simp only [g_zr_eq]
theorem g_newq_Lot {idx m : Nat} {z : Int} (hd : decode cc pc = .ok (.anewarray idx, 3)) (hw : Cond.classLink y.cls idx "TileFactory$Lot" ∈ lw_good) (hz : z = m) (hm : m ≤ 1000000) (hk : k + 1 ≤ rm.cells) (hn : n + m ≤ rm.slots)
    (kk : ∀ (q : Nat) (K' N' : Nat → Nat) (Q' : Nat → Int → Option Nat), K q = 0 → K' = va_up K q 17 → N' = va_up N q m → Q' = g_zr Q q none → gJ Y X y cc nL ret rm po px (k + 1) (n + m) (pc + 3) L (.ref q :: st) K' N' I A R Q') : gJ Y X y cc nL ret rm po px k n pc L (vi z :: st) K N I A R Q := by
  intro hx H locs ls hW hS hl
  obtain ⟨Ls, hL, hP, hD⟩ := hW
  subst hz
  have hc := i32_nat (z := (m : Int)) ⟨by omega, by omega⟩
  refine va_newq (C := "TileFactory$Lot") (N' := m) hx.1 hx.2.1 hx.2.2.2.1 (hx.2.2.2.2.1 _ hw) hx.2.2.2.2.2.2.1.2.2.2.1 hx.2.2.2.2.2.1 hP hD hS (fun q hq => Nat.le_trans hx.2.2.2.2.2.2.2.2.1 hq) (by rw [i32_0, i32_lt (by omega) (by omega)]; omega) (by rw [hc]; omega) (by omega) hk hn hd (fun q cA H1 hK1 hP1 hD1 hS1 => ?_)
  have hcy : cA = Y.2.2.1 5 := by
    obtain ⟨_, _, -, -, -, h1⟩ := (hK1.2 9 (cA, .object "TileFactory$Lot") rfl).2
    obtain ⟨_, _, -, -, -, h2⟩ := (hK1.2 5 (Y.2.2.1 5, .object "TileFactory$Lot") rfl).2
    exact Option.some.inj (h1.symm.trans h2)
  subst hcy
  refine kk q _ _ _ (gW_new0 hL hD1) rfl rfl rfl hx H1 locs ls (gW_push hL hP1 hD1 (fun b hb => va_up_ne _ _ hb) (by rw [va_up_self]; decide) ?_ (fun b hb => g_cell_congr (va_up_ne _ _ hb) (va_up_ne _ _ hb) (fun f => rfl) rfl (fun f => rfl) (g_zr_ne _ _ hb))) hS1 hl
  rw [g_ar5 (va_up_self _ _ _), va_up_self]
  simp only [g_zr_eq]
theorem g_newq_Pile {idx m : Nat} {z : Int} (hd : decode cc pc = .ok (.anewarray idx, 3)) (hw : Cond.classLink y.cls idx "TileFactory$Pile" ∈ lw_good) (hz : z = m) (hm : m ≤ 1000000) (hk : k + 1 ≤ rm.cells) (hn : n + m ≤ rm.slots)
    (kk : ∀ (q : Nat) (K' N' : Nat → Nat) (Q' : Nat → Int → Option Nat), K q = 0 → K' = va_up K q 18 → N' = va_up N q m → Q' = g_zr Q q none → gJ Y X y cc nL ret rm po px (k + 1) (n + m) (pc + 3) L (.ref q :: st) K' N' I A R Q') : gJ Y X y cc nL ret rm po px k n pc L (vi z :: st) K N I A R Q := by
  intro hx H locs ls hW hS hl
  obtain ⟨Ls, hL, hP, hD⟩ := hW
  subst hz
  have hc := i32_nat (z := (m : Int)) ⟨by omega, by omega⟩
  refine va_newq (C := "TileFactory$Pile") (N' := m) hx.1 hx.2.1 hx.2.2.2.1 (hx.2.2.2.2.1 _ hw) hx.2.2.2.2.2.2.1.2.2.2.2.1 hx.2.2.2.2.2.1 hP hD hS (fun q hq => Nat.le_trans hx.2.2.2.2.2.2.2.2.1 hq) (by rw [i32_0, i32_lt (by omega) (by omega)]; omega) (by rw [hc]; omega) (by omega) hk hn hd (fun q cA H1 hK1 hP1 hD1 hS1 => ?_)
  have hcy : cA = Y.2.2.1 6 := by
    obtain ⟨_, _, -, -, -, h1⟩ := (hK1.2 9 (cA, .object "TileFactory$Pile") rfl).2
    obtain ⟨_, _, -, -, -, h2⟩ := (hK1.2 6 (Y.2.2.1 6, .object "TileFactory$Pile") rfl).2
    exact Option.some.inj (h1.symm.trans h2)
  subst hcy
  refine kk q _ _ _ (gW_new0 hL hD1) rfl rfl rfl hx H1 locs ls (gW_push hL hP1 hD1 (fun b hb => va_up_ne _ _ hb) (by rw [va_up_self]; decide) ?_ (fun b hb => g_cell_congr (va_up_ne _ _ hb) (va_up_ne _ _ hb) (fun f => rfl) rfl (fun f => rfl) (g_zr_ne _ _ hb))) hS1 hl
  rw [g_ar6 (va_up_self _ _ _), va_up_self]
  simp only [g_zr_eq]
theorem g_newq_Position {idx m : Nat} {z : Int} (hd : decode cc pc = .ok (.anewarray idx, 3)) (hw : Cond.classLink y.cls idx "TileFactory$Position" ∈ lw_good) (hz : z = m) (hm : m ≤ 1000000) (hk : k + 1 ≤ rm.cells) (hn : n + m ≤ rm.slots)
    (kk : ∀ (q : Nat) (K' N' : Nat → Nat) (Q' : Nat → Int → Option Nat), K q = 0 → K' = va_up K q 19 → N' = va_up N q m → Q' = g_zr Q q none → gJ Y X y cc nL ret rm po px (k + 1) (n + m) (pc + 3) L (.ref q :: st) K' N' I A R Q') : gJ Y X y cc nL ret rm po px k n pc L (vi z :: st) K N I A R Q := by
  intro hx H locs ls hW hS hl
  obtain ⟨Ls, hL, hP, hD⟩ := hW
  subst hz
  have hc := i32_nat (z := (m : Int)) ⟨by omega, by omega⟩
  refine va_newq (C := "TileFactory$Position") (N' := m) hx.1 hx.2.1 hx.2.2.2.1 (hx.2.2.2.2.1 _ hw) hx.2.2.2.2.2.2.1.2.2.2.2.2.1 hx.2.2.2.2.2.1 hP hD hS (fun q hq => Nat.le_trans hx.2.2.2.2.2.2.2.2.1 hq) (by rw [i32_0, i32_lt (by omega) (by omega)]; omega) (by rw [hc]; omega) (by omega) hk hn hd (fun q cA H1 hK1 hP1 hD1 hS1 => ?_)
  have hcy : cA = Y.2.2.1 7 := by
    obtain ⟨_, _, -, -, -, h1⟩ := (hK1.2 9 (cA, .object "TileFactory$Position") rfl).2
    obtain ⟨_, _, -, -, -, h2⟩ := (hK1.2 7 (Y.2.2.1 7, .object "TileFactory$Position") rfl).2
    exact Option.some.inj (h1.symm.trans h2)
  subst hcy
  refine kk q _ _ _ (gW_new0 hL hD1) rfl rfl rfl hx H1 locs ls (gW_push hL hP1 hD1 (fun b hb => va_up_ne _ _ hb) (by rw [va_up_self]; decide) ?_ (fun b hb => g_cell_congr (va_up_ne _ _ hb) (va_up_ne _ _ hb) (fun f => rfl) rfl (fun f => rfl) (g_zr_ne _ _ hb))) hS1 hl
  rw [g_ar7 (va_up_self _ _ _), va_up_self]
  simp only [g_zr_eq]
theorem g_newq_State {idx m : Nat} {z : Int} (hd : decode cc pc = .ok (.anewarray idx, 3)) (hw : Cond.classLink y.cls idx "TileFactory$State" ∈ lw_good) (hz : z = m) (hm : m ≤ 1000000) (hk : k + 1 ≤ rm.cells) (hn : n + m ≤ rm.slots)
    (kk : ∀ (q : Nat) (K' N' : Nat → Nat) (Q' : Nat → Int → Option Nat), K q = 0 → K' = va_up K q 20 → N' = va_up N q m → Q' = g_zr Q q none → gJ Y X y cc nL ret rm po px (k + 1) (n + m) (pc + 3) L (.ref q :: st) K' N' I A R Q') : gJ Y X y cc nL ret rm po px k n pc L (vi z :: st) K N I A R Q := by
  intro hx H locs ls hW hS hl
  obtain ⟨Ls, hL, hP, hD⟩ := hW
  subst hz
  have hc := i32_nat (z := (m : Int)) ⟨by omega, by omega⟩
  refine va_newq (C := "TileFactory$State") (N' := m) hx.1 hx.2.1 hx.2.2.2.1 (hx.2.2.2.2.1 _ hw) hx.2.2.2.2.2.2.1.2.2.2.2.2.2 hx.2.2.2.2.2.1 hP hD hS (fun q hq => Nat.le_trans hx.2.2.2.2.2.2.2.2.1 hq) (by rw [i32_0, i32_lt (by omega) (by omega)]; omega) (by rw [hc]; omega) (by omega) hk hn hd (fun q cA H1 hK1 hP1 hD1 hS1 => ?_)
  have hcy : cA = Y.2.2.1 8 := by
    obtain ⟨_, _, -, -, -, h1⟩ := (hK1.2 9 (cA, .object "TileFactory$State") rfl).2
    obtain ⟨_, _, -, -, -, h2⟩ := (hK1.2 8 (Y.2.2.1 8, .object "TileFactory$State") rfl).2
    exact Option.some.inj (h1.symm.trans h2)
  subst hcy
  refine kk q _ _ _ (gW_new0 hL hD1) rfl rfl rfl hx H1 locs ls (gW_push hL hP1 hD1 (fun b hb => va_up_ne _ _ hb) (by rw [va_up_self]; decide) ?_ (fun b hb => g_cell_congr (va_up_ne _ _ hb) (va_up_ne _ _ hb) (fun f => rfl) rfl (fun f => rfl) (g_zr_ne _ _ hb))) hS1 hl
  rw [g_ar8 (va_up_self _ _ _), va_up_self]
  simp only [g_zr_eq]
end GN
theorem u_X12_init : gUI yX12_init cX12_init 1 0 := ⟨⟨mw_48, mw_47, mw_20, rfl⟩, by decide, by decide, by decide +kernel⟩
theorem u_X10_init : gUI yX10_init cX10_init 3 0 := ⟨⟨mw_56, mw_55, mw_21, rfl⟩, by decide, by decide, by decide +kernel⟩
theorem u_X2_init : gUI yX2_init cX2_init 1 0 := ⟨⟨mw_72, mw_71, mw_22, rfl⟩, by decide, by decide, by decide +kernel⟩
theorem u_X4_init : gUI yX4_init cX4_init 1 0 := ⟨⟨mw_88, mw_87, mw_23, rfl⟩, by decide, by decide, by decide +kernel⟩
theorem u_X8_init : gUI yX8_init cX8_init 2 1 := ⟨⟨mw_111, mw_110, mw_24, rfl⟩, by decide, by decide, by decide +kernel⟩
theorem u_X7_init : gUI yX7_init cX7_init 1 0 := ⟨⟨mw_131, mw_130, mw_25, rfl⟩, by decide, by decide, by decide +kernel⟩
theorem u_X6_init : gUI yX6_init cX6_init 1 0 := ⟨⟨mw_153, mw_152, mw_26, rfl⟩, by decide, by decide, by decide +kernel⟩
theorem u_X1_init : gUI yX1_init cX1_init 1 0 := ⟨⟨mw_181, mw_180, mw_27, rfl⟩, by decide, by decide, by decide +kernel⟩
theorem u_X5_init : gUI yX5_init cX5_init 1 0 := ⟨⟨mw_258, mw_257, mw_28, rfl⟩, by decide, by decide, by decide +kernel⟩
theorem u_X9_init : gUI yX9_init cX9_init 1 0 := ⟨⟨mw_274, mw_273, mw_29, rfl⟩, by decide, by decide, by decide +kernel⟩
theorem u_X12_pack : gUV yX12_pack cX12_pack 1 (some .int) 0 := ⟨⟨mw_657, mw_655, mw_656, mw_20⟩, by decide, by decide, by decide +kernel⟩
theorem u_X5_save : gUV yX5_save cX5_save 2 none 1 := ⟨⟨mw_429, mw_427, mw_428, mw_28⟩, by decide, by decide, by decide +kernel⟩
theorem u_X5_moveOldestToEnd : gUV yX5_moveOldestToEnd cX5_moveOldestToEnd 3 none 0 := ⟨⟨mw_433, mw_432, mw_1, mw_28⟩, by decide, by decide, by decide +kernel⟩
theorem u_X10_copyFrom : gUV yX10_copyFrom cX10_copyFrom 3 none 1 := ⟨⟨mw_438, mw_436, mw_437, mw_21⟩, by decide, by decide, by decide +kernel⟩
theorem u_X4_copyFrom : gUV yX4_copyFrom cX4_copyFrom 2 none 1 := ⟨⟨mw_442, mw_440, mw_441, mw_23⟩, by decide, by decide, by decide +kernel⟩
theorem u_X8_copyFrom : gUV yX8_copyFrom cX8_copyFrom 2 none 1 := ⟨⟨mw_446, mw_444, mw_445, mw_24⟩, by decide, by decide, by decide +kernel⟩
theorem u_X7_copyFrom : gUV yX7_copyFrom cX7_copyFrom 2 none 1 := ⟨⟨mw_450, mw_448, mw_449, mw_25⟩, by decide, by decide, by decide +kernel⟩
theorem u_X6_copyFrom : gUV yX6_copyFrom cX6_copyFrom 2 none 1 := ⟨⟨mw_454, mw_452, mw_453, mw_26⟩, by decide, by decide, by decide +kernel⟩
theorem u_X1_copyFrom : gUV yX1_copyFrom cX1_copyFrom 2 none 1 := ⟨⟨mw_458, mw_456, mw_457, mw_27⟩, by decide, by decide, by decide +kernel⟩
theorem u_X2_copyFrom : gUV yX2_copyFrom cX2_copyFrom 2 none 1 := ⟨⟨mw_462, mw_460, mw_461, mw_22⟩, by decide, by decide, by decide +kernel⟩
theorem u_X10_packLots : gUV yX10_packLots cX10_packLots 3 (some .int) 0 := ⟨⟨mw_661, mw_659, mw_660, mw_21⟩, by decide, by decide, by decide +kernel⟩
theorem u_X6_fillBoxes : gUV yX6_fillBoxes cX6_fillBoxes 3 (some .int) 1 := ⟨⟨mw_665, mw_663, mw_664, mw_26⟩, by decide, by decide, by decide +kernel⟩
theorem u_X12_firstError : gUV yX12_firstError cX12_firstError 1 (some .int) 0 := ⟨⟨mw_876, mw_874, mw_875, mw_20⟩, by decide, by decide, by decide +kernel⟩
theorem u_X9_findError : gUV yX9_findError cX9_findError 4 (some .int) 0 := ⟨⟨mw_880, mw_878, mw_879, mw_29⟩, by decide, by decide, by decide +kernel⟩
theorem u_X9_countCommands : gUV yX9_countCommands cX9_countCommands 3 (some .int) 0 := ⟨⟨mw_884, mw_882, mw_883, mw_29⟩, by decide, by decide, by decide +kernel⟩
theorem u_X9_rewind : gUV yX9_rewind cX9_rewind 1 none 0 := ⟨⟨mw_888, mw_886, mw_887, mw_29⟩, by decide, by decide, by decide +kernel⟩
theorem u_X9_readCommand : gUV yX9_readCommand cX9_readCommand 5 none 0 := ⟨⟨mw_892, mw_890, mw_891, mw_29⟩, by decide, by decide, by decide +kernel⟩
theorem u_X9_endOfCommand : gUV yX9_endOfCommand cX9_endOfCommand 2 (some .int) 0 := ⟨⟨mw_896, mw_895, mw_8, mw_29⟩, by decide, by decide, by decide +kernel⟩
theorem u_X9_readWord : gUV yX9_readWord cX9_readWord 3 none 2 := ⟨⟨mw_900, mw_899, mw_9, mw_29⟩, by decide, by decide, by decide +kernel⟩
theorem u_X9_verbAt : gUV yX9_verbAt cX9_verbAt 4 (some (.object "TileFactory$Verb")) 2 := ⟨⟨mw_904, mw_903, mw_10, mw_29⟩, by decide, by decide, by decide +kernel⟩
theorem u_X9_isWord : gUV yX9_isWord cX9_isWord 5 (some .boolean) 3 := ⟨⟨mw_910, mw_909, mw_11, mw_29⟩, by decide, by decide, by decide +kernel⟩
theorem u_X9_readArgument : gUV yX9_readArgument cX9_readArgument 5 none 2 := ⟨⟨mw_962, mw_961, mw_12, mw_29⟩, by decide, by decide, by decide +kernel⟩
theorem u_X9_numberAt : gUV yX9_numberAt cX9_numberAt 5 (some .int) 2 := ⟨⟨mw_966, mw_965, mw_13, mw_29⟩, by decide, by decide, by decide +kernel⟩
theorem u_X9_kindOfError : gUV yX9_kindOfError cX9_kindOfError 1 (some .int) 0 := ⟨⟨mw_970, mw_969, mw_14, mw_29⟩, by decide, by decide, by decide +kernel⟩
theorem u_X12_setGlaze : gUV yX12_setGlaze cX12_setGlaze 6 (some .int) 3 := ⟨⟨mw_329, mw_327, mw_328, mw_20⟩, by decide, by decide, by decide +kernel⟩
theorem u_X12_isGlaze : gUS yX12_isGlaze cX12_isGlaze 1 (some .boolean) 1 := ⟨⟨mw_332, mw_331, mw_20⟩, by decide, by decide, by decide +kernel⟩
theorem u_X12_isWithin : gUS yX12_isWithin cX12_isWithin 3 (some .boolean) 3 := ⟨⟨mw_335, mw_334, mw_20⟩, by decide, by decide, by decide +kernel⟩
theorem u_X12_checkIndex : gUS yX12_checkIndex cX12_checkIndex 1 none 1 := ⟨⟨mw_338, mw_337, mw_20⟩, by decide, by decide, by decide +kernel⟩
theorem u_X12_checkArgument : gUS yX12_checkArgument cX12_checkArgument 1 none 1 := ⟨⟨mw_409, mw_408, mw_20⟩, by decide, by decide, by decide +kernel⟩
theorem u_X12_setQuality : gUV yX12_setQuality cX12_setQuality 6 (some .int) 3 := ⟨⟨mw_474, mw_472, mw_473, mw_20⟩, by decide, by decide, by decide +kernel⟩
theorem u_X12_isPercentage : gUS yX12_isPercentage cX12_isPercentage 1 (some .boolean) 1 := ⟨⟨mw_477, mw_476, mw_20⟩, by decide, by decide, by decide +kernel⟩
theorem u_X12_setPosition : gUV yX12_setPosition cX12_setPosition 7 (some .int) 4 := ⟨⟨mw_484, mw_482, mw_483, mw_20⟩, by decide, by decide, by decide +kernel⟩
theorem u_X12_isKiln : gUS yX12_isKiln cX12_isKiln 1 (some .boolean) 1 := ⟨⟨mw_487, mw_486, mw_20⟩, by decide, by decide, by decide +kernel⟩
theorem u_X12_isPosition : gUS yX12_isPosition cX12_isPosition 1 (some .boolean) 1 := ⟨⟨mw_490, mw_489, mw_20⟩, by decide, by decide, by decide +kernel⟩
theorem u_X12_setSharpness : gUV yX12_setSharpness cX12_setSharpness 3 (some .int) 1 := ⟨⟨mw_497, mw_495, mw_496, mw_20⟩, by decide, by decide, by decide +kernel⟩
theorem u_X12_setBoxSize : gUV yX12_setBoxSize cX12_setBoxSize 3 (some .int) 1 := ⟨⟨mw_505, mw_503, mw_504, mw_20⟩, by decide, by decide, by decide +kernel⟩
theorem u_X10_boxesInLots : gUV yX10_boxesInLots cX10_boxesInLots 3 (some .int) 0 := ⟨⟨mw_509, mw_507, mw_508, mw_21⟩, by decide, by decide, by decide +kernel⟩
theorem u_X10_boxesOut : gUV yX10_boxesOut cX10_boxesOut 3 (some .int) 0 := ⟨⟨mw_513, mw_511, mw_512, mw_21⟩, by decide, by decide, by decide +kernel⟩
theorem u_X12_checkState : gUS yX12_checkState cX12_checkState 1 none 1 := ⟨⟨mw_516, mw_515, mw_20⟩, by decide, by decide, by decide +kernel⟩
theorem u_X12_fire : gUV yX12_fire cX12_fire 5 (some .int) 4 := ⟨⟨mw_540, mw_538, mw_539, mw_20⟩, by decide, by decide, by decide +kernel⟩
theorem u_X10_faultOfFiring : gUV yX10_faultOfFiring cX10_faultOfFiring 5 (some (.object "TileFactory$Fault")) 4 := ⟨⟨mw_544, mw_542, mw_543, mw_21⟩, by decide, by decide, by decide +kernel⟩
theorem u_X12_isPeak : gUS yX12_isPeak cX12_isPeak 1 (some .boolean) 1 := ⟨⟨mw_551, mw_550, mw_20⟩, by decide, by decide, by decide +kernel⟩
theorem u_X12_refuse : gUS yX12_refuse cX12_refuse 1 none 1 := ⟨⟨mw_561, mw_560, mw_20⟩, by decide, by decide, by decide +kernel⟩
theorem u_X10_makeFiring : gUV yX10_makeFiring cX10_makeFiring 11 (some .int) 4 := ⟨⟨mw_568, mw_566, mw_567, mw_21⟩, by decide, by decide, by decide +kernel⟩
theorem u_X8_breakSome : gUV yX8_breakSome cX8_breakSome 3 (some .int) 1 := ⟨⟨mw_572, mw_570, mw_571, mw_24⟩, by decide, by decide, by decide +kernel⟩
theorem u_X8_temperature : gUV yX8_temperature cX8_temperature 2 (some .int) 1 := ⟨⟨mw_576, mw_574, mw_575, mw_24⟩, by decide, by decide, by decide +kernel⟩
theorem u_X4_shadeFrom : gUV yX4_shadeFrom cX4_shadeFrom 3 (some .int) 1 := ⟨⟨mw_580, mw_578, mw_579, mw_23⟩, by decide, by decide, by decide +kernel⟩
theorem u_X10_addToBench : gUV yX10_addToBench cX10_addToBench 6 none 4 := ⟨⟨mw_593, mw_592, mw_2, mw_21⟩, by decide, by decide, by decide +kernel⟩
theorem u_X10_indexOfPile : gUV yX10_indexOfPile cX10_indexOfPile 4 (some .int) 2 := ⟨⟨mw_597, mw_596, mw_3, mw_21⟩, by decide, by decide, by decide +kernel⟩
theorem u_X7_isOf : gUV yX7_isOf cX7_isOf 3 (some .boolean) 2 := ⟨⟨mw_601, mw_599, mw_600, mw_25⟩, by decide, by decide, by decide +kernel⟩
theorem u_X7_begin : gUV yX7_begin cX7_begin 3 none 2 := ⟨⟨mw_605, mw_603, mw_604, mw_25⟩, by decide, by decide, by decide +kernel⟩
theorem u_X10_hasPile : gUV yX10_hasPile cX10_hasPile 2 (some .boolean) 1 := ⟨⟨mw_609, mw_607, mw_608, mw_21⟩, by decide, by decide, by decide +kernel⟩
theorem u_X2_add : gUV yX2_add cX2_add 3 none 2 := ⟨⟨mw_613, mw_611, mw_612, mw_22⟩, by decide, by decide, by decide +kernel⟩
theorem u_X12_grade : gUV yX12_grade cX12_grade 2 (some .int) 1 := ⟨⟨mw_621, mw_619, mw_620, mw_20⟩, by decide, by decide, by decide +kernel⟩
theorem u_X10_faultOfGrading : gUV yX10_faultOfGrading cX10_faultOfGrading 2 (some (.object "TileFactory$Fault")) 1 := ⟨⟨mw_625, mw_623, mw_624, mw_21⟩, by decide, by decide, by decide +kernel⟩
theorem u_X10_gradeBench : gUV yX10_gradeBench cX10_gradeBench 6 (some .int) 1 := ⟨⟨mw_629, mw_627, mw_628, mw_21⟩, by decide, by decide, by decide +kernel⟩
theorem u_X7_foundBy : gUV yX7_foundBy cX7_foundBy 6 (some .int) 2 := ⟨⟨mw_633, mw_631, mw_632, mw_25⟩, by decide, by decide, by decide +kernel⟩
theorem u_X10_addLoose : gUV yX10_addLoose cX10_addLoose 7 none 5 := ⟨⟨mw_637, mw_636, mw_4, mw_21⟩, by decide, by decide, by decide +kernel⟩
theorem u_X10_indexOfLot : gUV yX10_indexOfLot cX10_indexOfLot 5 (some .int) 3 := ⟨⟨mw_641, mw_639, mw_640, mw_21⟩, by decide, by decide, by decide +kernel⟩
theorem u_X6_isOf : gUV yX6_isOf cX6_isOf 3 (some .boolean) 2 := ⟨⟨mw_645, mw_643, mw_644, mw_26⟩, by decide, by decide, by decide +kernel⟩
theorem u_X6_begin : gUV yX6_begin cX6_begin 4 none 3 := ⟨⟨mw_649, mw_647, mw_648, mw_26⟩, by decide, by decide, by decide +kernel⟩
theorem u_X10_hasLot : gUV yX10_hasLot cX10_hasLot 2 (some .boolean) 1 := ⟨⟨mw_653, mw_651, mw_652, mw_21⟩, by decide, by decide, by decide +kernel⟩
theorem u_X12_deliver : gUV yX12_deliver cX12_deliver 4 (some .int) 3 := ⟨⟨mw_672, mw_670, mw_671, mw_20⟩, by decide, by decide, by decide +kernel⟩
theorem u_X10_faultOfDelivery : gUV yX10_faultOfDelivery cX10_faultOfDelivery 5 (some (.object "TileFactory$Fault")) 3 := ⟨⟨mw_676, mw_674, mw_675, mw_21⟩, by decide, by decide, by decide +kernel⟩
theorem u_X12_isGrade : gUS yX12_isGrade cX12_isGrade 1 (some .boolean) 1 := ⟨⟨mw_679, mw_678, mw_20⟩, by decide, by decide, by decide +kernel⟩
theorem u_X12_isBoxCount : gUS yX12_isBoxCount cX12_isBoxCount 1 (some .boolean) 1 := ⟨⟨mw_682, mw_681, mw_20⟩, by decide, by decide, by decide +kernel⟩
theorem u_X10_lotToDeliver : gUV yX10_lotToDeliver cX10_lotToDeliver 8 (some .int) 3 := ⟨⟨mw_687, mw_686, mw_5, mw_21⟩, by decide, by decide, by decide +kernel⟩
theorem u_X10_isBetter : gUS yX10_isBetter cX10_isBetter 2 (some .boolean) 2 := ⟨⟨mw_690, mw_689, mw_21⟩, by decide, by decide, by decide +kernel⟩
theorem u_X10_makeDelivery : gUV yX10_makeDelivery cX10_makeDelivery 7 (some .int) 3 := ⟨⟨mw_694, mw_692, mw_693, mw_21⟩, by decide, by decide, by decide +kernel⟩
theorem u_X6_giveBoxes : gUV yX6_giveBoxes cX6_giveBoxes 7 (some .int) 2 := ⟨⟨mw_698, mw_696, mw_697, mw_26⟩, by decide, by decide, by decide +kernel⟩
theorem u_X6_content : gUV yX6_content cX6_content 2 (some .int) 1 := ⟨⟨mw_702, mw_700, mw_701, mw_26⟩, by decide, by decide, by decide +kernel⟩
theorem u_X6_limitHidden : gUV yX6_limitHidden cX6_limitHidden 2 none 1 := ⟨⟨mw_706, mw_704, mw_705, mw_26⟩, by decide, by decide, by decide +kernel⟩
theorem u_X4_tileValue : gUV yX4_tileValue cX4_tileValue 2 (some .int) 1 := ⟨⟨mw_711, mw_709, mw_710, mw_23⟩, by decide, by decide, by decide +kernel⟩
theorem u_X12_drop : gUV yX12_drop cX12_drop 5 (some .int) 4 := ⟨⟨mw_730, mw_728, mw_729, mw_20⟩, by decide, by decide, by decide +kernel⟩
theorem u_X10_faultOfDropping : gUV yX10_faultOfDropping cX10_faultOfDropping 6 (some (.object "TileFactory$Fault")) 4 := ⟨⟨mw_734, mw_732, mw_733, mw_21⟩, by decide, by decide, by decide +kernel⟩
theorem u_X10_dropBox : gUV yX10_dropBox cX10_dropBox 7 (some .int) 4 := ⟨⟨mw_738, mw_736, mw_737, mw_21⟩, by decide, by decide, by decide +kernel⟩
theorem u_X10_breakOtherwise : gUV yX10_breakOtherwise cX10_breakOtherwise 2 none 1 := ⟨⟨mw_743, mw_742, mw_6, mw_21⟩, by decide, by decide, by decide +kernel⟩
theorem u_X12_takeBack : gUV yX12_takeBack cX12_takeBack 4 (some .int) 3 := ⟨⟨mw_750, mw_748, mw_749, mw_20⟩, by decide, by decide, by decide +kernel⟩
theorem u_X10_faultOfReturn : gUV yX10_faultOfReturn cX10_faultOfReturn 4 (some (.object "TileFactory$Fault")) 3 := ⟨⟨mw_754, mw_752, mw_753, mw_21⟩, by decide, by decide, by decide +kernel⟩
theorem u_X10_hasDelivery : gUV yX10_hasDelivery cX10_hasDelivery 2 (some .boolean) 1 := ⟨⟨mw_758, mw_756, mw_757, mw_21⟩, by decide, by decide, by decide +kernel⟩
theorem u_X10_openReturned : gUV yX10_openReturned cX10_openReturned 5 (some .int) 3 := ⟨⟨mw_762, mw_760, mw_761, mw_21⟩, by decide, by decide, by decide +kernel⟩
theorem u_X12_replace : gUV yX12_replace cX12_replace 2 (some .int) 1 := ⟨⟨mw_769, mw_767, mw_768, mw_20⟩, by decide, by decide, by decide +kernel⟩
theorem u_X10_faultOfReplacing : gUV yX10_faultOfReplacing cX10_faultOfReplacing 4 (some (.object "TileFactory$Fault")) 1 := ⟨⟨mw_773, mw_771, mw_772, mw_21⟩, by decide, by decide, by decide +kernel⟩
theorem u_X10_replaceComplaints : gUV yX10_replaceComplaints cX10_replaceComplaints 5 (some .int) 1 := ⟨⟨mw_777, mw_775, mw_776, mw_21⟩, by decide, by decide, by decide +kernel⟩
theorem u_X12_undo : gUV yX12_undo cX12_undo 1 (some .int) 0 := ⟨⟨mw_784, mw_782, mw_783, mw_20⟩, by decide, by decide, by decide +kernel⟩
theorem u_X5_restore : gUV yX5_restore cX5_restore 2 none 1 := ⟨⟨mw_788, mw_786, mw_787, mw_28⟩, by decide, by decide, by decide +kernel⟩
theorem u_X10_contentOf : gUV yX10_contentOf cX10_contentOf 5 (some .int) 2 := ⟨⟨mw_1002, mw_1000, mw_1001, mw_21⟩, by decide, by decide, by decide +kernel⟩
theorem u_X12_lot : gUV yX12_lot cX12_lot 3 (some .int) 2 := ⟨⟨mw_718, mw_716, mw_717, mw_20⟩, by decide, by decide, by decide +kernel⟩
theorem u_X6_property : gUV yX6_property cX6_property 2 (some .int) 1 := ⟨⟨mw_723, mw_721, mw_722, mw_26⟩, by decide, by decide, by decide +kernel⟩
theorem u_X12_isShade : gUS yX12_isShade cX12_isShade 1 (some .boolean) 1 := ⟨⟨mw_811, mw_810, mw_20⟩, by decide, by decide, by decide +kernel⟩
theorem u_X12_delivery : gUV yX12_delivery cX12_delivery 3 (some .long) 2 := ⟨⟨mw_1018, mw_1016, mw_1017, mw_20⟩, by decide, by decide, by decide +kernel⟩
theorem u_X1_property : gUV yX1_property cX1_property 2 (some .long) 1 := ⟨⟨mw_1023, mw_1021, mw_1022, mw_27⟩, by decide, by decide, by decide +kernel⟩
theorem u_X12_event : gUV yX12_event cX12_event 3 (some .int) 2 := ⟨⟨mw_860, mw_858, mw_859, mw_20⟩, by decide, by decide, by decide +kernel⟩
theorem u_X2_kindOf : gUV yX2_kindOf cX2_kindOf 2 (some .int) 1 := ⟨⟨mw_864, mw_862, mw_863, mw_22⟩, by decide, by decide, by decide +kernel⟩
theorem u_X2_has : gUV yX2_has cX2_has 2 (some .boolean) 1 := ⟨⟨mw_868, mw_867, mw_7, mw_22⟩, by decide, by decide, by decide +kernel⟩
theorem u_X2_numberOf : gUV yX2_numberOf cX2_numberOf 2 (some .int) 1 := ⟨⟨mw_872, mw_870, mw_871, mw_22⟩, by decide, by decide, by decide +kernel⟩
theorem u_X12_total : gUV yX12_total cX12_total 2 (some .long) 1 := ⟨⟨mw_980, mw_978, mw_979, mw_20⟩, by decide, by decide, by decide +kernel⟩
theorem u_X10_sum : gUV yX10_sum cX10_sum 2 (some .long) 1 := ⟨⟨mw_984, mw_982, mw_983, mw_21⟩, by decide, by decide, by decide +kernel⟩
theorem u_X10_tilesOnBench : gUV yX10_tilesOnBench cX10_tilesOnBench 3 (some .int) 0 := ⟨⟨mw_988, mw_987, mw_15, mw_21⟩, by decide, by decide, by decide +kernel⟩
theorem u_X10_looseTiles : gUV yX10_looseTiles cX10_looseTiles 3 (some .int) 0 := ⟨⟨mw_992, mw_991, mw_16, mw_21⟩, by decide, by decide, by decide +kernel⟩
theorem u_X10_presentValue : gUV yX10_presentValue cX10_presentValue 5 (some .long) 0 := ⟨⟨mw_998, mw_997, mw_17, mw_21⟩, by decide, by decide, by decide +kernel⟩
theorem u_X10_deliveredValue : gUV yX10_deliveredValue cX10_deliveredValue 4 (some .long) 0 := ⟨⟨mw_1007, mw_1006, mw_18, mw_21⟩, by decide, by decide, by decide +kernel⟩
theorem u_X12_shadeAt : gUV yX12_shadeAt cX12_shadeAt 6 (some .int) 4 := ⟨⟨mw_798, mw_796, mw_797, mw_20⟩, by decide, by decide, by decide +kernel⟩
theorem u_X12_bestPeak : gUV yX12_bestPeak cX12_bestPeak 8 (some .int) 3 := ⟨⟨mw_808, mw_806, mw_807, mw_20⟩, by decide, by decide, by decide +kernel⟩
theorem u_X10_positionsWithShade : gUV yX10_positionsWithShade cX10_positionsWithShade 8 (some .int) 4 := ⟨⟨mw_815, mw_813, mw_814, mw_21⟩, by decide, by decide, by decide +kernel⟩
theorem u_X12_largest : gUV yX12_largest cX12_largest 3 (some .int) 2 := ⟨⟨mw_822, mw_820, mw_821, mw_20⟩, by decide, by decide, by decide +kernel⟩
theorem u_X10_fullestLots : gUV yX10_fullestLots cX10_fullestLots 5 (some (.array .int)) 2 := ⟨⟨mw_827, mw_825, mw_826, mw_21⟩, by decide, by decide, by decide +kernel⟩
theorem u_X10_insert : gUS yX10_insert cX10_insert 5 none 2 := ⟨⟨mw_830, mw_829, mw_21⟩, by decide, by decide, by decide +kernel⟩
theorem u_X12_possible : gUV yX12_possible cX12_possible 7 (some .int) 5 := ⟨⟨mw_837, mw_835, mw_836, mw_20⟩, by decide, by decide, by decide +kernel⟩
theorem u_X12_mostPlaced : gUS yX12_mostPlaced cX12_mostPlaced 6 (some .int) 3 := ⟨⟨mw_841, mw_840, mw_20⟩, by decide, by decide, by decide +kernel⟩
theorem u_X12_wouldHide : gUV yX12_wouldHide cX12_wouldHide 2 (some .int) 1 := ⟨⟨mw_849, mw_847, mw_848, mw_20⟩, by decide, by decide, by decide +kernel⟩
theorem u_X10_hiddenAfter : gUV yX10_hiddenAfter cX10_hiddenAfter 4 (some .int) 1 := ⟨⟨mw_853, mw_851, mw_852, mw_21⟩, by decide, by decide, by decide +kernel⟩
def g_pu (r : Option Value) (K N : Nat → Nat) (I : Nat → Nat → Int) (A : Nat → Int → Int) (R : Nat → Nat → Option Nat) (Q : Nat → Int → Option Nat) : gPo := fun v K' N' I' A' R' Q' => v = r ∧ K' = K ∧ N' = N ∧ I' = I ∧ A' = A ∧ R' = R ∧ Q' = Q
def g_wr (K N : Nat → Nat) (R : Nat → Nat → Option Nat) (Q : Nat → Int → Option Nat) (P : Option Value → (Nat → Nat → Int) → (Nat → Int → Int) → Prop) : gPo := fun v K' N' I' A' R' Q' => K' = K ∧ N' = N ∧ R' = R ∧ Q' = Q ∧ P v I' A'
theorem g_pu_i {z z' : Int} (h : z = z') (K N : Nat → Nat) (I : Nat → Nat → Int) (A : Nat → Int → Int) (R : Nat → Nat → Option Nat) (Q : Nat → Int → Option Nat) : g_pu (some (vi z')) K N I A R Q (some (vi z)) K N I A R Q := ⟨by rw [h], rfl, rfl, rfl, rfl, rfl, rfl⟩
theorem g_pu_l {z z' : Int} (h : z = z') (K N : Nat → Nat) (I : Nat → Nat → Int) (A : Nat → Int → Int) (R : Nat → Nat → Option Nat) (Q : Nat → Int → Option Nat) : g_pu (some (vl z')) K N I A R Q (some (vl z)) K N I A R Q := ⟨by rw [h], rfl, rfl, rfl, rfl, rfl, rfl⟩
section GP
variable {Y : gEnv} {X : gCtx} {y : MethodName} {cc : ByteArray} {nL : Nat} {ret : Option FieldType} {rm : Room} {po : gPo} {px : gPx} {k n pc : Nat} {L : List (Nat × Value)} {st : List Value} {K N : Nat → Nat} {I : Nat → Nat → Int} {A : Nat → Int → Int} {R : Nat → Nat → Option Nat} {Q : Nat → Int → Option Nat}
variable {yc : MethodName} {c' : ByteArray} {nL' a idx : Nat} {ret' : Option FieldType} {rm' : Room} {r : Value} {As : List Value} {st0 : List Value} {P9 : Option Value → (Nat → Nat → Int) → (Nat → Int → Int) → Prop}
theorem g_callVp {b i m : Nat} {fs : List Value} {T : u_T} (hc : vwCl[i]? = some (yc.cls, T, m)) (hKb : K b ≠ 0) (hat : g_cell Y.2.2.1 K N I A R Q b = .inr (i, fs)) (hC : gC Y yc c' nL' ret' rm' (.ref b :: As) K N I A R Q (g_pu (some r) K N I A R Q) gno) (hu : gUV yc c' nL' ret' a) (hw : Cond.methodLink y.cls idx yc ∈ lw_good) (hd : decode cc pc = .ok (.invokevirtual idx, 3)) (hlen : As.length = a) (hst : st0 = As.reverse ++ .ref b :: st) (hroom : rm'.frames + 1 ≤ rm.frames ∧ 8 + (nL' + 11) + rm'.locals ≤ rm.locals) (hfit : k + rm'.cells ≤ rm.cells ∧ n + rm'.slots ≤ rm.slots) (hrest : (st.map fun v => v.category).sum ≤ 8)
    (kk : gJ Y X y cc nL ret rm po px (k + rm'.cells) (n + rm'.slots) (pc + 3) L (r :: st) K N I A R Q) : gJ Y X y cc nL ret rm po px k n pc L st0 K N I A R Q :=
  g_callV hc hKb hat hC hu hw hd hlen hst hroom hfit hrest (fun v K' N' I' A' R' Q' h => by
    obtain ⟨h1, h2, h3, h4, h5, h6, h7⟩ := h
    rw [h1, h2, h3, h4, h5, h6, h7]
    exact kk)
theorem g_callVw {b i m : Nat} {fs : List Value} {T : u_T} (hc : vwCl[i]? = some (yc.cls, T, m)) (hKb : K b ≠ 0) (hat : g_cell Y.2.2.1 K N I A R Q b = .inr (i, fs)) (hC : gC Y yc c' nL' ret' rm' (.ref b :: As) K N I A R Q (g_wr K N R Q P9) gno) (hu : gUV yc c' nL' ret' a) (hw : Cond.methodLink y.cls idx yc ∈ lw_good) (hd : decode cc pc = .ok (.invokevirtual idx, 3)) (hlen : As.length = a) (hst : st0 = As.reverse ++ .ref b :: st) (hroom : rm'.frames + 1 ≤ rm.frames ∧ 8 + (nL' + 11) + rm'.locals ≤ rm.locals) (hfit : k + rm'.cells ≤ rm.cells ∧ n + rm'.slots ≤ rm.slots) (hrest : (st.map fun v => v.category).sum ≤ 8)
    (kk : ∀ (v : Option Value) (I' : Nat → Nat → Int) (A' : Nat → Int → Int), P9 v I' A' → gJ Y X y cc nL ret rm po px (k + rm'.cells) (n + rm'.slots) (pc + 3) L (v.toList ++ st) K N I' A' R Q) : gJ Y X y cc nL ret rm po px k n pc L st0 K N I A R Q :=
  g_callV hc hKb hat hC hu hw hd hlen hst hroom hfit hrest (fun v K' N' I' A' R' Q' h => by
    obtain ⟨h2, h3, h6, h7, h8⟩ := h
    rw [h2, h3, h6, h7]
    exact kk v I' A' h8)
theorem g_callSp  (hC : gC Y yc c' nL' ret' rm' As K N I A R Q (g_pu (some r) K N I A R Q) gno) (hu : gUS yc c' nL' ret' a) (hw : Cond.methodLink y.cls idx yc ∈ lw_good) (hown : yc.cls = y.cls) (hd : decode cc pc = .ok (.invokestatic idx, 3)) (hlen : As.length = a) (hst : st0 = As.reverse ++ st) (hroom : rm'.frames + 1 ≤ rm.frames ∧ 8 + (nL' + 11) + rm'.locals ≤ rm.locals) (hfit : k + rm'.cells ≤ rm.cells ∧ n + rm'.slots ≤ rm.slots) (hrest : (st.map fun v => v.category).sum ≤ 8)
    (kk : gJ Y X y cc nL ret rm po px (k + rm'.cells) (n + rm'.slots) (pc + 3) L (r :: st) K N I A R Q) : gJ Y X y cc nL ret rm po px k n pc L st0 K N I A R Q :=
  g_callS hC hu hw hown hd hlen hst hroom hfit hrest (fun v K' N' I' A' R' Q' h => by
    obtain ⟨h1, h2, h3, h4, h5, h6, h7⟩ := h
    rw [h1, h2, h3, h4, h5, h6, h7]
    exact kk)
theorem g_callSw  (hC : gC Y yc c' nL' ret' rm' As K N I A R Q (g_wr K N R Q P9) gno) (hu : gUS yc c' nL' ret' a) (hw : Cond.methodLink y.cls idx yc ∈ lw_good) (hown : yc.cls = y.cls) (hd : decode cc pc = .ok (.invokestatic idx, 3)) (hlen : As.length = a) (hst : st0 = As.reverse ++ st) (hroom : rm'.frames + 1 ≤ rm.frames ∧ 8 + (nL' + 11) + rm'.locals ≤ rm.locals) (hfit : k + rm'.cells ≤ rm.cells ∧ n + rm'.slots ≤ rm.slots) (hrest : (st.map fun v => v.category).sum ≤ 8)
    (kk : ∀ (v : Option Value) (I' : Nat → Nat → Int) (A' : Nat → Int → Int), P9 v I' A' → gJ Y X y cc nL ret rm po px (k + rm'.cells) (n + rm'.slots) (pc + 3) L (v.toList ++ st) K N I' A' R Q) : gJ Y X y cc nL ret rm po px k n pc L st0 K N I A R Q :=
  g_callS hC hu hw hown hd hlen hst hroom hfit hrest (fun v K' N' I' A' R' Q' h => by
    obtain ⟨h2, h3, h6, h7, h8⟩ := h
    rw [h2, h3, h6, h7]
    exact kk v I' A' h8)
theorem g_callSNp {host : String} (hC : gC Y yc c' nL' ret' rm' As K N I A R Q (g_pu (some r) K N I A R Q) gno) (hu : gUS yc c' nL' ret' a) (hw : Cond.methodLinkNest y.cls idx yc host ∈ lw_nest) (hd : decode cc pc = .ok (.invokestatic idx, 3)) (hlen : As.length = a) (hst : st0 = As.reverse ++ st) (hroom : rm'.frames + 1 ≤ rm.frames ∧ 8 + (nL' + 11) + rm'.locals ≤ rm.locals) (hfit : k + rm'.cells ≤ rm.cells ∧ n + rm'.slots ≤ rm.slots) (hrest : (st.map fun v => v.category).sum ≤ 8)
    (kk : gJ Y X y cc nL ret rm po px (k + rm'.cells) (n + rm'.slots) (pc + 3) L (r :: st) K N I A R Q) : gJ Y X y cc nL ret rm po px k n pc L st0 K N I A R Q :=
  g_callSN hC hu hw hd hlen hst hroom hfit hrest (fun v K' N' I' A' R' Q' h => by
    obtain ⟨h1, h2, h3, h4, h5, h6, h7⟩ := h
    rw [h1, h2, h3, h4, h5, h6, h7]
    exact kk)
theorem g_callSNw {host : String} (hC : gC Y yc c' nL' ret' rm' As K N I A R Q (g_wr K N R Q P9) gno) (hu : gUS yc c' nL' ret' a) (hw : Cond.methodLinkNest y.cls idx yc host ∈ lw_nest) (hd : decode cc pc = .ok (.invokestatic idx, 3)) (hlen : As.length = a) (hst : st0 = As.reverse ++ st) (hroom : rm'.frames + 1 ≤ rm.frames ∧ 8 + (nL' + 11) + rm'.locals ≤ rm.locals) (hfit : k + rm'.cells ≤ rm.cells ∧ n + rm'.slots ≤ rm.slots) (hrest : (st.map fun v => v.category).sum ≤ 8)
    (kk : ∀ (v : Option Value) (I' : Nat → Nat → Int) (A' : Nat → Int → Int), P9 v I' A' → gJ Y X y cc nL ret rm po px (k + rm'.cells) (n + rm'.slots) (pc + 3) L (v.toList ++ st) K N I' A' R Q) : gJ Y X y cc nL ret rm po px k n pc L st0 K N I A R Q :=
  g_callSN hC hu hw hd hlen hst hroom hfit hrest (fun v K' N' I' A' R' Q' h => by
    obtain ⟨h2, h3, h6, h7, h8⟩ := h
    rw [h2, h3, h6, h7]
    exact kk v I' A' h8)
end GP
