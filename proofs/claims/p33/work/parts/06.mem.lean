/-! ===== memory: K kind of a cell, N length of a row, I numbers by field and cell, A numbers by row and place, R Q the same for references ===== -/
def g_up {α : Type} (f : Nat → Nat → α) (a b : Nat) (v : α) : Nat → Nat → α := fun x y => if x = a then (if y = b then v else f x y) else f x y
theorem g_up_eq {α : Type} (f : Nat → Nat → α) (a b : Nat) (v : α) : g_up f a b v a b = v := by simp [g_up]
theorem g_up_ne1 {α : Type} (f : Nat → Nat → α) {a b x y : Nat} (v : α) (h : x ≠ a) : g_up f a b v x y = f x y := by simp [g_up, h]
theorem g_up_ne2 {α : Type} (f : Nat → Nat → α) {a b x y : Nat} (v : α) (h : y ≠ b) : g_up f a b v x y = f x y := by simp [g_up, h]
def g_uq {α : Type} (f : Nat → Int → α) (a : Nat) (b : Int) (v : α) : Nat → Int → α := fun x y => if x = a then (if y = b then v else f x y) else f x y
theorem g_uq_eq {α : Type} (f : Nat → Int → α) (a : Nat) (b : Int) (v : α) : g_uq f a b v a b = v := by simp [g_uq]
theorem g_uq_ne1 {α : Type} (f : Nat → Int → α) {a x : Nat} {b y : Int} (v : α) (h : x ≠ a) : g_uq f a b v x y = f x y := by simp [g_uq, h]
theorem g_uq_ne2 {α : Type} (f : Nat → Int → α) {a x : Nat} {b y : Int} (v : α) (h : y ≠ b) : g_uq f a b v x y = f x y := by simp [g_uq, h]
abbrev gEnv : Type := Launch × va_G × (Nat → ClassId) × Nat
abbrev gCtx : Type := Program × Env × State × MethodId × Array Value × List Frame × Method × Code
def g_f0 (I : Nat → Nat → Int) (R : Nat → Nat → Option Nat) (q : Nat) : List Value := [vi (I 0 q), vi (I 1 q), vi (I 2 q), vi (I 3 q), vl (I 4 q)]
def g_f1 (I : Nat → Nat → Int) (R : Nat → Nat → Option Nat) (q : Nat) : List Value := [va_rf (R 20 q), va_rf (R 21 q), vi (I 22 q)]
def g_f2 (I : Nat → Nat → Int) (R : Nat → Nat → Option Nat) (q : Nat) : List Value := [vi (I 40 q), vi (I 41 q), vi (I 42 q), vi (I 43 q)]
def g_f3 (I : Nat → Nat → Int) (R : Nat → Nat → Option Nat) (q : Nat) : List Value := [va_rf (R 60 q), vi (I 61 q)]
def g_f4 (I : Nat → Nat → Int) (R : Nat → Nat → Option Nat) (q : Nat) : List Value := [vi (I 80 q), vi (I 81 q), vi (I 82 q), vi (I 83 q), vi (I 84 q), vi (I 85 q)]
def g_f5 (I : Nat → Nat → Int) (R : Nat → Nat → Option Nat) (q : Nat) : List Value := [vi (I 100 q), vi (I 101 q), vi (I 102 q), vi (I 103 q)]
def g_f6 (I : Nat → Nat → Int) (R : Nat → Nat → Option Nat) (q : Nat) : List Value := [vi (I 120 q), vi (I 121 q), vi (I 122 q), vi (I 123 q)]
def g_f7 (I : Nat → Nat → Int) (R : Nat → Nat → Option Nat) (q : Nat) : List Value := [va_rf (R 140 q), vi (I 141 q), vi (I 142 q), vi (I 143 q), vi (I 144 q), va_rf (R 145 q), va_rf (R 146 q)]
def g_f8 (I : Nat → Nat → Int) (R : Nat → Nat → Option Nat) (q : Nat) : List Value := [va_rf (R 160 q), va_rf (R 161 q), va_rf (R 162 q), va_rf (R 163 q), va_rf (R 164 q), va_rf (R 165 q), vi (I 166 q), vi (I 167 q), vi (I 168 q), vi (I 169 q), vi (I 170 q), vi (I 171 q), vi (I 172 q), vi (I 173 q)]
def g_f9 (I : Nat → Nat → Int) (R : Nat → Nat → Option Nat) (q : Nat) : List Value := [va_rf (R 180 q), va_rf (R 181 q), va_rf (R 182 q)]
def g_f10 (I : Nat → Nat → Int) (R : Nat → Nat → Option Nat) (q : Nat) : List Value := [va_rf (R 200 q), va_rf (R 201 q), va_rf (R 202 q), va_rf (R 203 q), vi (I 204 q), vi (I 205 q), vi (I 206 q), vi (I 207 q), vi (I 208 q), vi (I 209 q)]
def g_cell (cy : Nat → ClassId) (K N : Nat → Nat) (I : Nat → Nat → Int) (A : Nat → Int → Int) (R : Nat → Nat → Option Nat) (Q : Nat → Int → Option Nat) (q : Nat) : va_E :=
  match K q with
  | 1 => .inr (0, g_f0 I R q)
  | 2 => .inr (1, g_f1 I R q)
  | 3 => .inr (2, g_f2 I R q)
  | 4 => .inr (3, g_f3 I R q)
  | 5 => .inr (4, g_f4 I R q)
  | 6 => .inr (5, g_f5 I R q)
  | 7 => .inr (6, g_f6 I R q)
  | 8 => .inr (7, g_f7 I R q)
  | 9 => .inr (8, g_f8 I R q)
  | 10 => .inr (9, g_f9 I R q)
  | 11 => .inr (10, g_f10 I R q)
  | 12 => .inl (cy 0, N q, .inl (fun j => Int32.ofInt (A q j)))
  | 13 => .inl (cy 1, N q, .inl (fun j => Int32.ofInt (A q j)))
  | 14 => .inl (cy 2, N q, .inr (.inl (fun j => Int64.ofInt (A q j))))
  | 15 => .inl (cy 3, N q, .inr (.inr (.inr (.inr (fun j => Q q j)))))
  | 16 => .inl (cy 4, N q, .inr (.inr (.inr (.inr (fun j => Q q j)))))
  | 17 => .inl (cy 5, N q, .inr (.inr (.inr (.inr (fun j => Q q j)))))
  | 18 => .inl (cy 6, N q, .inr (.inr (.inr (.inr (fun j => Q q j)))))
  | 19 => .inl (cy 7, N q, .inr (.inr (.inr (.inr (fun j => Q q j)))))
  | _ => .inl (cy 8, N q, .inr (.inr (.inr (.inr (fun j => Q q j)))))
def g_tys (cy : Nat → ClassId) : List (ClassId × FieldType) := [(cy 0, .char), (cy 1, .int), (cy 2, .int), (cy 3, .object "TileFactory$Delivery"), (cy 4, .object "TileFactory$Glaze"), (cy 5, .object "TileFactory$Lot"), (cy 6, .object "TileFactory$Pile"), (cy 7, .object "TileFactory$Position"), (cy 8, .object "TileFactory$State")]
theorem g_at0 {cy : Nat → ClassId} {K N : Nat → Nat} {I : Nat → Nat → Int} {A : Nat → Int → Int} {R : Nat → Nat → Option Nat} {Q : Nat → Int → Option Nat} {q : Nat} (h : K q = 1) : g_cell cy K N I A R Q q = .inr (0, g_f0 I R q) := by simp [g_cell, h]
theorem g_at1 {cy : Nat → ClassId} {K N : Nat → Nat} {I : Nat → Nat → Int} {A : Nat → Int → Int} {R : Nat → Nat → Option Nat} {Q : Nat → Int → Option Nat} {q : Nat} (h : K q = 2) : g_cell cy K N I A R Q q = .inr (1, g_f1 I R q) := by simp [g_cell, h]
theorem g_at2 {cy : Nat → ClassId} {K N : Nat → Nat} {I : Nat → Nat → Int} {A : Nat → Int → Int} {R : Nat → Nat → Option Nat} {Q : Nat → Int → Option Nat} {q : Nat} (h : K q = 3) : g_cell cy K N I A R Q q = .inr (2, g_f2 I R q) := by simp [g_cell, h]
theorem g_at3 {cy : Nat → ClassId} {K N : Nat → Nat} {I : Nat → Nat → Int} {A : Nat → Int → Int} {R : Nat → Nat → Option Nat} {Q : Nat → Int → Option Nat} {q : Nat} (h : K q = 4) : g_cell cy K N I A R Q q = .inr (3, g_f3 I R q) := by simp [g_cell, h]
theorem g_at4 {cy : Nat → ClassId} {K N : Nat → Nat} {I : Nat → Nat → Int} {A : Nat → Int → Int} {R : Nat → Nat → Option Nat} {Q : Nat → Int → Option Nat} {q : Nat} (h : K q = 5) : g_cell cy K N I A R Q q = .inr (4, g_f4 I R q) := by simp [g_cell, h]
theorem g_at5 {cy : Nat → ClassId} {K N : Nat → Nat} {I : Nat → Nat → Int} {A : Nat → Int → Int} {R : Nat → Nat → Option Nat} {Q : Nat → Int → Option Nat} {q : Nat} (h : K q = 6) : g_cell cy K N I A R Q q = .inr (5, g_f5 I R q) := by simp [g_cell, h]
theorem g_at6 {cy : Nat → ClassId} {K N : Nat → Nat} {I : Nat → Nat → Int} {A : Nat → Int → Int} {R : Nat → Nat → Option Nat} {Q : Nat → Int → Option Nat} {q : Nat} (h : K q = 7) : g_cell cy K N I A R Q q = .inr (6, g_f6 I R q) := by simp [g_cell, h]
theorem g_at7 {cy : Nat → ClassId} {K N : Nat → Nat} {I : Nat → Nat → Int} {A : Nat → Int → Int} {R : Nat → Nat → Option Nat} {Q : Nat → Int → Option Nat} {q : Nat} (h : K q = 8) : g_cell cy K N I A R Q q = .inr (7, g_f7 I R q) := by simp [g_cell, h]
theorem g_at8 {cy : Nat → ClassId} {K N : Nat → Nat} {I : Nat → Nat → Int} {A : Nat → Int → Int} {R : Nat → Nat → Option Nat} {Q : Nat → Int → Option Nat} {q : Nat} (h : K q = 9) : g_cell cy K N I A R Q q = .inr (8, g_f8 I R q) := by simp [g_cell, h]
theorem g_at9 {cy : Nat → ClassId} {K N : Nat → Nat} {I : Nat → Nat → Int} {A : Nat → Int → Int} {R : Nat → Nat → Option Nat} {Q : Nat → Int → Option Nat} {q : Nat} (h : K q = 10) : g_cell cy K N I A R Q q = .inr (9, g_f9 I R q) := by simp [g_cell, h]
theorem g_at10 {cy : Nat → ClassId} {K N : Nat → Nat} {I : Nat → Nat → Int} {A : Nat → Int → Int} {R : Nat → Nat → Option Nat} {Q : Nat → Int → Option Nat} {q : Nat} (h : K q = 11) : g_cell cy K N I A R Q q = .inr (10, g_f10 I R q) := by simp [g_cell, h]
theorem g_ar0 {cy : Nat → ClassId} {K N : Nat → Nat} {I : Nat → Nat → Int} {A : Nat → Int → Int} {R : Nat → Nat → Option Nat} {Q : Nat → Int → Option Nat} {q : Nat} (h : K q = 12) : g_cell cy K N I A R Q q = .inl (cy 0, N q, .inl (fun j => Int32.ofInt (A q j))) := by simp [g_cell, h]
theorem g_ar1 {cy : Nat → ClassId} {K N : Nat → Nat} {I : Nat → Nat → Int} {A : Nat → Int → Int} {R : Nat → Nat → Option Nat} {Q : Nat → Int → Option Nat} {q : Nat} (h : K q = 13) : g_cell cy K N I A R Q q = .inl (cy 1, N q, .inl (fun j => Int32.ofInt (A q j))) := by simp [g_cell, h]
theorem g_ar2 {cy : Nat → ClassId} {K N : Nat → Nat} {I : Nat → Nat → Int} {A : Nat → Int → Int} {R : Nat → Nat → Option Nat} {Q : Nat → Int → Option Nat} {q : Nat} (h : K q = 14) : g_cell cy K N I A R Q q = .inl (cy 2, N q, .inr (.inl (fun j => Int64.ofInt (A q j)))) := by simp [g_cell, h]
theorem g_ar3 {cy : Nat → ClassId} {K N : Nat → Nat} {I : Nat → Nat → Int} {A : Nat → Int → Int} {R : Nat → Nat → Option Nat} {Q : Nat → Int → Option Nat} {q : Nat} (h : K q = 15) : g_cell cy K N I A R Q q = .inl (cy 3, N q, .inr (.inr (.inr (.inr (fun j => Q q j))))) := by simp [g_cell, h]
theorem g_ar4 {cy : Nat → ClassId} {K N : Nat → Nat} {I : Nat → Nat → Int} {A : Nat → Int → Int} {R : Nat → Nat → Option Nat} {Q : Nat → Int → Option Nat} {q : Nat} (h : K q = 16) : g_cell cy K N I A R Q q = .inl (cy 4, N q, .inr (.inr (.inr (.inr (fun j => Q q j))))) := by simp [g_cell, h]
theorem g_ar5 {cy : Nat → ClassId} {K N : Nat → Nat} {I : Nat → Nat → Int} {A : Nat → Int → Int} {R : Nat → Nat → Option Nat} {Q : Nat → Int → Option Nat} {q : Nat} (h : K q = 17) : g_cell cy K N I A R Q q = .inl (cy 5, N q, .inr (.inr (.inr (.inr (fun j => Q q j))))) := by simp [g_cell, h]
theorem g_ar6 {cy : Nat → ClassId} {K N : Nat → Nat} {I : Nat → Nat → Int} {A : Nat → Int → Int} {R : Nat → Nat → Option Nat} {Q : Nat → Int → Option Nat} {q : Nat} (h : K q = 18) : g_cell cy K N I A R Q q = .inl (cy 6, N q, .inr (.inr (.inr (.inr (fun j => Q q j))))) := by simp [g_cell, h]
theorem g_ar7 {cy : Nat → ClassId} {K N : Nat → Nat} {I : Nat → Nat → Int} {A : Nat → Int → Int} {R : Nat → Nat → Option Nat} {Q : Nat → Int → Option Nat} {q : Nat} (h : K q = 19) : g_cell cy K N I A R Q q = .inl (cy 7, N q, .inr (.inr (.inr (.inr (fun j => Q q j))))) := by simp [g_cell, h]
theorem g_ar8 {cy : Nat → ClassId} {K N : Nat → Nat} {I : Nat → Nat → Int} {A : Nat → Int → Int} {R : Nat → Nat → Option Nat} {Q : Nat → Int → Option Nat} {q : Nat} (h : K q = 20) : g_cell cy K N I A R Q q = .inl (cy 8, N q, .inr (.inr (.inr (.inr (fun j => Q q j))))) := by simp [g_cell, h]
theorem g_cell_congr {cy : Nat → ClassId} {K N K' N' : Nat → Nat} {I I' : Nat → Nat → Int} {A A' : Nat → Int → Int} {R R' : Nat → Nat → Option Nat} {Q Q' : Nat → Int → Option Nat} {q : Nat} (hK : K' q = K q) (hN : N' q = N q) (hI : ∀ f, I' f q = I f q) (hA : A' q = A q) (hR : ∀ f, R' f q = R f q) (hQ : Q' q = Q q) : g_cell cy K' N' I' A' R' Q' q = g_cell cy K N I A R Q q := by
  simp only [g_cell, hK, hN, hA, hQ, g_f0, g_f1, g_f2, g_f3, g_f4, g_f5, g_f6, g_f7, g_f8, g_f9, g_f10, hI, hR]
/-- the heap holds the memory; its cells lie from sz on -/
def gW (Y : gEnv) (K N : Nat → Nat) (I : Nat → Nat → Int) (A : Nat → Int → Int) (R : Nat → Nat → Option Nat) (Q : Nat → Int → Option Nat) (H : Heap) : Prop := ∃ L : List Nat, (∀ q, q ∈ L ↔ K q ≠ 0) ∧ va_P Y.2.1 vwCl ([] ++ va_pl L (g_cell Y.2.2.1 K N I A R Q)) H ∧ va_D (fun q => Y.2.2.2 ≤ q) ([] ++ va_pl L (g_cell Y.2.2.1 K N I A R Q))
/-- what the tables say beside the good words -/
def gNestW : Cond → Bool
  | .methodLinkNest .. => true
  | .fieldLinkNest .. => true
  | _ => false
def lw_nest : List Cond := lw_tbl.filter gNestW
def gExt (U : State) : Prop := (∀ w ∈ lw_nest, va_Nw w U) ∧ (va_AO "TileFactory$Delivery" U ∧ va_AO "TileFactory$Glaze" U ∧ va_AO "TileFactory$Lot" U ∧ va_AO "TileFactory$Pile" U ∧ va_AO "TileFactory$Position" U ∧ va_AO "TileFactory$State" U)
theorem gExt.warm {s U : State} (hW : s.WarmedH U.vm) (h : gExt s) : gExt U := by
  refine ⟨fun w hw => ?_, h.2.1.moved hW.alike, h.2.2.1.moved hW.alike, h.2.2.2.1.moved hW.alike, h.2.2.2.2.1.moved hW.alike, h.2.2.2.2.2.1.moved hW.alike, h.2.2.2.2.2.2.moved hW.alike⟩
  have h1 := h.1 w hw
  have h2 := (List.mem_filter.mp hw).2
  cases w <;> first | exact va_Nw.warmF hW h1 | exact va_Nw.warmM hW h1 | (simp [gNestW] at h2)
/-- what static things hold (from the start on, for ever); their addresses stand behind the array classes in Y -/
abbrev gOld (Y : gEnv) : Nat → Prop := fun q => Y.2.2.2 ≤ q
/-- the constants of the commands (their class's own statics are not told) -/
def gVb (ad : Nat → Nat) (A : Nat → Prop) (U : State) (H : Heap) : Prop := (∀ i, i < 5 → va_O "TileFactory$Verb" (ad i) A U H) ∧ (∀ i j, i < 5 → j < 5 → ad i = ad j → i = j) ∧ va_Ef 5 "java/lang/Enum" "ordinal" "I" (fun i => .int (([0, 1, 2, 3, 4] : List Int32).getD i 0)) ad A U H ∧ va_Ef 5 "TileFactory$Verb" "arguments" "I" (fun i => .int (([4, 1, 0, 3, 4] : List Int32).getD i 0)) ad A U H
theorem gVb.moved {ad : Nat → Nat} {A : Nat → Prop} {u U : State} {H : Heap} (hvm : u.vm.Alike U.vm) (h : gVb ad A u H) : gVb ad A U H := ⟨fun i hi => va_O.moved hvm (h.1 i hi), h.2.1, va_Ef.moved hvm h.2.2.1, va_Ef.moved hvm h.2.2.2⟩
theorem gVb.kept {ad : Nat → Nat} {A : Nat → Prop} {U : State} {H H1 : Heap} (h : gVb ad A U H) (hq : ∀ a : Nat, a < H.size → ¬ A a → H1[a]? = H[a]?) : gVb ad A U H1 := ⟨fun i hi => (h.1 i hi).kept hq, h.2.1, h.2.2.1.kept hq, h.2.2.2.kept hq⟩
def gS1 (Y : gEnv) (U : State) (H : Heap) : Prop :=
  va_En "TileFactory$Fault" "LTileFactory$Fault;" ["NOTHING", "INDEX", "ARGUMENT", "STATE"] [] (fun i => Y.2.2.1 (20 + i)) (gOld Y) U H ∧
  gVb (fun i => Y.2.2.1 (30 + i)) (gOld Y) U H ∧
  va_Ef 5 "TileFactory$Verb" "word" "Ljava/lang/String;" (fun i => .ref (Y.2.2.1 (40 + i))) (fun i => Y.2.2.1 (30 + i)) (gOld Y) U H ∧
  vk_S 5 [4, 5, 4, 4, 4] [[102, 105, 114, 101], [103, 114, 97, 100, 101], [112, 97, 99, 107], [115, 104, 105, 112], [100, 114, 111, 112]] (fun i => Y.2.2.1 (40 + i)) (fun i => Y.2.2.1 (50 + i)) (gOld Y) U H ∧
  va_Z "TileFactory" "VERBS" "[LTileFactory$Verb;" (.ref (Y.2.2.1 60)) (gOld Y) U H ∧ va_T (.object "TileFactory$Verb") (Y.2.2.1 60) 5 (fun j => .ref (Y.2.2.1 (30 + j))) (gOld Y) U H ∧
  True ∧ True ∧
  va_Z "java/lang/String" "COMPACT_STRINGS" "Z" (.int 1) (gOld Y) U H ∧
  vx_Zq Bundle.tN "UNASSIGNED_STACK" Bundle.steD (gOld Y) U H ∧ vx_Zq Bundle.tN "SUPPRESSED_SENTINEL" Bundle.listD (gOld Y) U H ∧ va_Zq "jdk/internal/util/Preconditions" "SIOOBE_FORMATTER" "Ljava/util/function/BiFunction;" (gOld Y) U H
def gFaceW : Cond → Bool
  | .declares _ => true
  | .castable .. => true
  | _ => false
def lw_face : List Cond := lw_tbl.filter gFaceW
def gFa (U : State) : Prop := (∀ w ∈ lw_face, w.before #[] U = true) ∧ va_Nc "java/lang/IllegalArgumentException" "java/lang/IndexOutOfBoundsException" U ∧ va_Nc "java/lang/IllegalStateException" "java/lang/IndexOutOfBoundsException" U ∧ va_Nc "java/lang/IllegalStateException" "java/lang/IllegalArgumentException" U
theorem gFa.moved {u U : State} (hvm : u.vm.Alike U.vm) (h : gFa u) : gFa U := by
  refine ⟨fun w hw => ?_, va_Nc.moved hvm h.2.1, va_Nc.moved hvm h.2.2.1, va_Nc.moved hvm h.2.2.2⟩
  have h1 := h.1 w hw
  have h2 := (List.mem_filter.mp hw).2
  cases w <;> first | exact ((Cond.onTables_vm (A := #[]) (A' := #[]) (U := U) (U' := u) U.vm _ rfl).trans (Cond.castable_setVm hvm _ _)).trans h1 | exact ((Cond.onTables_vm (A := #[]) (A' := #[]) (U := U) (U' := u) U.vm _ rfl).trans (Cond.declares_setVm hvm _)).trans h1 | (simp [gFaceW] at h2)
theorem gFa.any {U : State} (h : gFa U) (args : Array Value) : ∀ w ∈ lw_face, w.before args U = true := fun w hw => by
  have h1 := h.1 w hw
  have h2 := (List.mem_filter.mp hw).2
  cases w <;> first | exact (Cond.onTables_vm (A := args) (A' := #[]) (U := U) (U' := U) U.vm _ rfl).trans h1 | (simp [gFaceW] at h2)
theorem lg_sub2 {ws : List Cond} (h1 : ∀ w ∈ ws, w ∈ lw_tbl) (h2 : ws.all (fun w => goodWord w || gFaceW w) = true) : ∀ w ∈ ws, w ∈ lw_good ∨ w ∈ lw_face := fun w hw => by
  have h3 := List.all_eq_true.mp h2 w hw
  rw [Bool.or_eq_true] at h3
  exact h3.elim (fun h => Or.inl (List.mem_filter.mpr ⟨h1 w hw, h⟩)) (fun h => Or.inr (List.mem_filter.mpr ⟨h1 w hw, h⟩))
def gS2 (Y : gEnv) (U : State) : Prop := vk_R "TileFactory" 315 "there is nothing with this number" (Y.2.2.1 70) U ∧ vk_R "TileFactory" 322 "an argument is out of range" (Y.2.2.1 71) U ∧ vk_R "TileFactory" 327 "the factory's state does not allow this call" (Y.2.2.1 72) U ∧ gFa U
theorem gS1.moved {Y : gEnv} {u U : State} {H : Heap} (hvm : u.vm.Alike U.vm) (h : gS1 Y u H) : gS1 Y U H := by
  obtain ⟨h1, h2, h3, h4, h5, h6, h7, h8, h9, h10, h11, h12⟩ := h
  exact ⟨va_En.moved hvm h1, gVb.moved hvm h2, va_Ef.moved hvm h3, vk_S.moved hvm h4, va_Z.moved hvm h5, va_T.moved hvm h6, trivial, trivial, va_Z.moved hvm h9, vx_Zq.moved hvm h10, vx_Zq.moved hvm h11, va_Zq.moved hvm h12⟩
theorem gS1.kept {Y : gEnv} {U : State} {H H1 : Heap} (h : gS1 Y U H) (hq : ∀ a : Nat, a < H.size → ¬ gOld Y a → H1[a]? = H[a]?) : gS1 Y U H1 := by
  obtain ⟨h1, h2, h3, h4, h5, h6, h7, h8, h9, h10, h11, h12⟩ := h
  exact ⟨h1.kept hq, h2.kept hq, h3.kept hq, h4.kept hq, h5.kept hq, h6.kept hq, trivial, trivial, h9.kept hq, h10.kept hq, h11.kept hq, h12.kept hq⟩
def gSt (Y : gEnv) (U : State) (H : Heap) : Prop := gS1 Y U H ∧ gS2 Y U ∧ Y.1.stackTraces = false
theorem gSt.kept {Y : gEnv} {s U : State} {H : Heap} {locs : List Loc} (h : gSt Y s s.heap) (hS : va_S (fun q => Y.2.2.2 ≤ q) s.heap H locs) (hW : s.WarmedH U.vm) (hU : U.heap = H) : gSt Y U U.heap :=
  ⟨by rw [hU]; exact gS1.moved hW.alike (h.1.kept hS.2.1), ⟨h.2.1.1.warm hW, h.2.1.2.1.warm hW, h.2.1.2.2.1.warm hW, h.2.1.2.2.2.moved hW.alike⟩, h.2.2⟩
def gIn (Y : gEnv) (K N : Nat → Nat) (I : Nat → Nat → Int) (A : Nat → Int → Int) (R : Nat → Nat → Option Nat) (Q : Nat → Int → Option Nat) (U : State) : Prop := va_K Y.2.1 vwCl (g_tys Y.2.2.1) U ∧ gExt U ∧ gSt Y U U.heap ∧ Y.2.2.2 ≤ U.heap.size ∧ gW Y K N I A R Q U.heap
abbrev gPo : Type := Option Value → (Nat → Nat) → (Nat → Nat) → (Nat → Nat → Int) → (Nat → Int → Int) → (Nat → Nat → Option Nat) → (Nat → Int → Option Nat) → Prop
abbrev gPx : Type := String → (Nat → Nat) → (Nat → Nat) → (Nat → Nat → Int) → (Nat → Int → Int) → (Nat → Nat → Option Nat) → (Nat → Int → Option Nat) → Prop
def gno : gPx := fun _ _ _ _ _ _ _ => False
def gQc (Y : gEnv) (po : gPo) : Array Value → State → Outcome → State → Prop := fun _ st oc t => ∃ (v : Option Value) (K N : Nat → Nat) (I : Nat → Nat → Int) (A : Nat → Int → Int) (R : Nat → Nat → Option Nat) (Q : Nat → Int → Option Nat), oc = .returned v ∧ po v K N I A R Q ∧ gW Y K N I A R Q t.heap ∧ va_F (fun q => Y.2.2.2 ≤ q) st t
def gXC (Y : gEnv) (px : gPx) : String → State → State → Prop := fun E st t => ∃ (K N : Nat → Nat) (I : Nat → Nat → Int) (A : Nat → Int → Int) (R : Nat → Nat → Option Nat) (Q : Nat → Int → Option Nat), px E K N I A R Q ∧ gW Y K N I A R Q t.heap ∧ va_F (fun q => Y.2.2.2 ≤ q) st t
/-- a method's contract -/
def gC (Y : gEnv) (y : MethodName) (cc : ByteArray) (nL : Nat) (ret : Option FieldType) (rm : Room) (av : List Value) (K N : Nat → Nat) (I : Nat → Nat → Int) (A : Nat → Int → Int) (R : Nat → Nat → Option Nat) (Q : Nat → Int → Option Nat) (po : gPo) (px : gPx) : Prop :=
  vx_Met Y.1 y (lw_ws y cc nL ret) rm (va_Pc av (gIn Y K N I A R Q)) (gQc Y po) (gXC Y px) rm.cells rm.slots (fun q => Y.2.2.2 ≤ q)
/-- what holds all the way through a method -/
def gX (Y : gEnv) (X : gCtx) (y : MethodName) (cc : ByteArray) (nL : Nat) (ret : Option FieldType) : Prop :=
  X.1.tables.exec = Jvm.exec ∧ X.2.2.2.2.2.2.2.code = cc ∧ X.2.2.2.2.2.2.2.maxLocals = nL ∧ X.2.2.1.vm.findClass y.cls = some X.2.2.2.1.cls ∧ (∀ w ∈ lw_good, w.before X.2.2.2.2.1 X.2.2.1 = true) ∧ va_K Y.2.1 vwCl (g_tys Y.2.2.1) X.2.2.1 ∧ gExt X.2.2.1 ∧ gSt Y X.2.2.1 X.2.2.1.heap ∧ Y.2.2.2 ≤ X.2.2.1.heap.size ∧ X.2.2.2.2.2.2.1.sig.returnType = ret ∧ X.2.2.2.2.2.2.1.locks = false ∧ (y.cls ≠ "TileFactoryLaw" → ∀ x ∈ X.2.2.2.2.2.2.2.exceptionTable.toList, False) ∧ X.2.2.2.2.2.2.1.name = y.name
abbrev gWj (Y : gEnv) (X : gCtx) (rm : Room) (H : Heap) (locs : List Loc) (k n : Nat) (Z : State → Prop) (g : JFrame) : Prop := W X.1 Y.1 X.2.1 rm X.2.2.1 X.2.2.2.1 X.2.2.2.2.1 X.2.2.2.2.2.1 X.2.2.2.2.2.2.1 X.2.2.2.2.2.2.2 H locs k n Z g
abbrev gZ (Y : gEnv) (X : gCtx) (po : gPo) (px : gPx) (rm : Room) : State → Prop := vx_MQ X.2.2.2.2.2.1 (gQc Y po) (gXC Y px) X.2.2.2.2.1 X.2.2.1 rm.cells rm.slots (fun q => Y.2.2.2 ≤ q)
/-- from this point on, with this memory, the method comes to an end that po (or px) names -/
def gJ (Y : gEnv) (X : gCtx) (y : MethodName) (cc : ByteArray) (nL : Nat) (ret : Option FieldType) (rm : Room) (po : gPo) (px : gPx) (k n pc : Nat) (L : List (Nat × Value)) (st : List Value) (K N : Nat → Nat) (I : Nat → Nat → Int) (A : Nat → Int → Int) (R : Nat → Nat → Option Nat) (Q : Nat → Int → Option Nat) : Prop :=
  gX Y X y cc nL ret → ∀ (H : Heap) (locs : List Loc) (ls : Array Slot), gW Y K N I A R Q H → va_S (fun q => Y.2.2.2 ≤ q) X.2.2.1.heap H locs → lv_has ls nL L → gWj Y X rm H locs k n (gZ Y X po px rm) (F0 X.2.2.2.1 pc ls st)
theorem gC_of {Y : gEnv} {y : MethodName} {cc : ByteArray} {nL : Nat} {ret : Option FieldType} {rm : Room} {av : List Value} {K N : Nat → Nat} {I : Nat → Nat → Int} {A : Nat → Int → Int} {R : Nat → Nat → Option Nat} {Q : Nat → Int → Option Nat} {po : gPo} {px : gPx} (hy : plainName y.cls = true) (hn : (lg_sl av).length ≤ nL)
    (h : ∀ X : gCtx, gJ Y X y cc nL ret rm po px 0 0 0 (lv_args 0 av) [] K N I A R Q) : gC Y y cc nL ret rm av K N I A R Q po px := by
  refine vx_ofW (cc := cc) (maxL := nL) (ret := ret) hy rfl ?_
  intro p e s m args below meth c s₁ B hml hex hv
  obtain ⟨rfl, hK, hE, hSt, hsz, hW⟩ := hv
  have hts : ∀ w ∈ lw_good, w.before av.toArray s = true := fun w hw => atoms_spec (ws := lw_ws y cc nL ret) B.pre w (List.mem_cons_of_mem _ hw)
  have hown : s.vm.findClass y.cls = some m.cls := findClass_of_methodNamed B.named
  have hl := lv_entry av (n := nL) hn
  rw [lg_entry_eq]
  exact h (p, e, s, m, av.toArray, below, meth, c) ⟨B.exec, B.bytes, hml, hown, hts, hK, hE, hSt, hsz, B.returns, B.notSynchronized, fun _ => hex, (name_of_methodNamed B.named B.method).1⟩ s.heap [] _ hW va_S.rf hl
