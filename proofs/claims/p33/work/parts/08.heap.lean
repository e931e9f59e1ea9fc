theorem lg_in0 : ∀ w ∈ u_ws RX1 TX1 5, w ∈ lw_good := lg_sub (by decide +kernel) (by decide +kernel)
theorem lg_in1 : ∀ w ∈ u_ws RX2 TX2 3, w ∈ lw_good := lg_sub (by decide +kernel) (by decide +kernel)
theorem lg_in2 : ∀ w ∈ u_ws RX4 TX4 4, w ∈ lw_good := lg_sub (by decide +kernel) (by decide +kernel)
theorem lg_in3 : ∀ w ∈ u_ws RX5 TX5 2, w ∈ lw_good := lg_sub (by decide +kernel) (by decide +kernel)
theorem lg_in4 : ∀ w ∈ u_ws RX6 TX6 6, w ∈ lw_good := lg_sub (by decide +kernel) (by decide +kernel)
theorem lg_in5 : ∀ w ∈ u_ws RX7 TX7 4, w ∈ lw_good := lg_sub (by decide +kernel) (by decide +kernel)
theorem lg_in6 : ∀ w ∈ u_ws RX8 TX8 4, w ∈ lw_good := lg_sub (by decide +kernel) (by decide +kernel)
theorem lg_in7 : ∀ w ∈ u_ws RX9 TX9 7, w ∈ lw_good := lg_sub (by decide +kernel) (by decide +kernel)
theorem lg_in8 : ∀ w ∈ u_ws RX10 TX10 14, w ∈ lw_good := lg_sub (by decide +kernel) (by decide +kernel)
theorem lg_in9 : ∀ w ∈ u_ws RX12 TX12 3, w ∈ lw_good := lg_sub (by decide +kernel) (by decide +kernel)
section GH
variable {Y : gEnv} {X : gCtx} {y : MethodName} {cc : ByteArray} {nL : Nat} {ret : Option FieldType} {rm : Room} {po : gPo} {px : gPx} {k n pc : Nat} {L : List (Nat × Value)} {st : List Value} {K N : Nat → Nat} {I : Nat → Nat → Int} {A : Nat → Int → Int} {R : Nat → Nat → Option Nat} {Q : Nat → Int → Option Nat}
theorem g_getG {C ref : String} {T : u_T} {m i idx q : Nat} {fs : List Value} {v : Value} (hin : ∀ w ∈ u_ws C T m, w ∈ lw_good) (hc : vwCl[i]? = some (C, T, m)) (hK : K q ≠ 0) (hat : g_cell Y.2.2.1 K N I A R Q q = .inr (i, fs)) (j : Nat) (hj : j < m) (hw : Cond.fieldLink y.cls idx ref (T j).2.1 (T j).2.2.1 ∈ lw_good) (hsame : (T j).1 = ref) (hv : fs[j]? = some v) (hd : decode cc pc = .ok (.getfield idx, 3)) (kk : gJ Y X y cc nL ret rm po px k n (pc + 3) L (v :: st) K N I A R Q) : gJ Y X y cc nL ret rm po px k n pc L (.ref q :: st) K N I A R Q := by
  intro hx H locs ls hW hS hl
  have hW2 := hW
  obtain ⟨Ls, hL, hP, hD⟩ := hW
  obtain ⟨j0, hj0⟩ := va_pl_get (X := []) (f := (g_cell Y.2.2.1 K N I A R Q)) ((hL q).mpr hK)
  rw [hat] at hj0
  exact va_get (C := C) (T := T) (N := m) hx.1 hx.2.1 hx.2.2.2.2.1 hin hx.2.2.2.1 hx.2.2.2.2.2.1 hP j0 hj0 hc j hj (hx.2.2.2.2.1 _ hw) (fun _ h => hsame ▸ h) hv hd (kk hx H locs ls hW2 hS hl)
theorem gW_set {K N : Nat → Nat} {I I' : Nat → Nat → Int} {A A' : Nat → Int → Int} {R R' : Nat → Nat → Option Nat} {Q Q' : Nat → Int → Option Nat} {Ls : List Nat} {j0 q : Nat} {e : va_E} {H1 : Heap} (hL : ∀ q, q ∈ Ls ↔ K q ≠ 0) (hK : K q ≠ 0) (hj0 : ([] ++ va_pl Ls (g_cell Y.2.2.1 K N I A R Q))[j0]? = some (q, (g_cell Y.2.2.1 K N I A R Q) q)) (hD0 : va_D (fun q => Y.2.2.2 ≤ q) ([] ++ va_pl Ls (g_cell Y.2.2.1 K N I A R Q)))
    (hP : va_P Y.2.1 vwCl (([] ++ va_pl Ls (g_cell Y.2.2.1 K N I A R Q)).set j0 (q, e)) H1) (hD : va_D (fun q => Y.2.2.2 ≤ q) (([] ++ va_pl Ls (g_cell Y.2.2.1 K N I A R Q)).set j0 (q, e))) (he : ∀ b, va_up (g_cell Y.2.2.1 K N I A R Q) q e b = g_cell Y.2.2.1 K N I' A' R' Q' b) : gW Y K N I' A' R' Q' H1 := by
  have h1 := va_pl_set (e := e) hD0 ((hL q).mpr hK) hj0
  rw [h1, va_pl_congr he] at hP hD
  exact ⟨Ls, hL, hP, hD⟩
theorem g_putG {C ref : String} {T : u_T} {m i idx q : Nat} {fs : List Value} {v : Value} {ty : FieldType} {I' : Nat → Nat → Int} {R' : Nat → Nat → Option Nat} (hin : ∀ w ∈ u_ws C T m, w ∈ lw_good) (ty0 : Nat → FieldType) (hty : ∀ k, k < m → parseFieldDescriptor (T k).2.2.1 = some (ty0 k)) (hnm : ∀ a, a < m → ∀ b, b < m → a ≠ b → (T a).2.1 ≠ (T b).2.1) (hc : vwCl[i]? = some (C, T, m)) (hK : K q ≠ 0) (hat : g_cell Y.2.2.1 K N I A R Q q = .inr (i, fs)) (j : Nat) (hj : j < m) (hw : Cond.fieldLink y.cls idx ref (T j).2.1 (T j).2.2.1 ∈ lw_good) (hsame : (T j).1 = ref) (hfin : (T j).2.2.2 = false ∨ ((T j).2.2.2 = true ∧ y.name = "<init>" ∧ (T j).1 = y.cls)) (hdc : parseFieldDescriptor (T j).2.2.1 = some ty) (hn : narrow ty v = v) (hfit : fits ty v = true) (hlen : j < fs.length)
    (he : ∀ b, va_up (g_cell Y.2.2.1 K N I A R Q) q (.inr (i, fs.set j v)) b = g_cell Y.2.2.1 K N I' A R' Q b) (hd : decode cc pc = .ok (.putfield idx, 3)) (kk : gJ Y X y cc nL ret rm po px k n (pc + 3) L st K N I' A R' Q) : gJ Y X y cc nL ret rm po px k n pc L (v :: .ref q :: st) K N I A R Q := by
  intro hx H locs ls hW hS hl
  obtain ⟨Ls, hL, hP, hD⟩ := hW
  obtain ⟨j0, hj0⟩ := va_pl_get (X := []) (f := (g_cell Y.2.2.1 K N I A R Q)) ((hL q).mpr hK)
  have hj1 := hj0
  rw [hat] at hj0
  rcases hfin with hfin | ⟨hfin, hin2, hdecl⟩
  · exact va_put (C := C) (T := T) (N := m) hx.1 hx.2.1 hx.2.2.2.2.1 hin ty0 hty hnm hx.2.2.2.1 hx.2.2.2.2.2.1 hP hD hS j0 hj0 hc j hj (hx.2.2.2.2.1 _ hw) (fun _ h => hsame ▸ h) hfin hdc hn hfit hlen hd
      (fun H1 locs1 hP1 hD1 hS1 => kk hx H1 locs1 ls (gW_set hL hK hj1 hD hP1 hD1 he) hS1 hl)
  · exact va_putF (C := C) (T := T) (N := m) hx.1 hx.2.1 hx.2.2.2.2.1 hin ty0 hty hnm hx.2.2.2.1 hx.2.2.2.2.2.1 hP hD hS j0 hj0 hc j hj (hx.2.2.2.2.1 _ hw) (fun _ h => hsame ▸ h) hfin (hx.2.2.2.2.2.2.2.2.2.2.2.2.trans hin2) hdecl hdc hn hfit hlen hd
      (fun H1 locs1 hP1 hD1 hS1 => kk hx H1 locs1 ls (gW_set hL hK hj1 hD hP1 hD1 he) hS1 hl)
theorem g_get_Delivery_lot {idx q : Nat} (hd : decode cc pc = .ok (.getfield idx, 3)) (hw : Cond.fieldLink y.cls idx "TileFactory$Delivery" "lot" "I" ∈ lw_good) (hK : K q = 1) (kk : gJ Y X y cc nL ret rm po px k n (pc + 3) L (vi (I 0 q) :: st) K N I A R Q) : gJ Y X y cc nL ret rm po px k n pc L (.ref q :: st) K N I A R Q := g_getG lg_in0 rfl (by rw [hK]; decide) (g_at0 hK) 0 (by decide) hw rfl rfl hd kk
theorem g_put_Delivery_lot {idx q : Nat} {z : Int} (hd : decode cc pc = .ok (.putfield idx, 3)) (hw : Cond.fieldLink y.cls idx "TileFactory$Delivery" "lot" "I" ∈ lw_good) (hK : K q = 1) (kk : ∀ (I' : Nat → Nat → Int), I' = g_up I 0 q z → gJ Y X y cc nL ret rm po px k n (pc + 3) L st K N I' A R Q) : gJ Y X y cc nL ret rm po px k n pc L (vi z :: .ref q :: st) K N I A R Q :=
  g_putG lg_in0 tyX1 tyX1_ok nmX1 rfl (by rw [hK]; decide) (g_at0 hK) 0 (by decide) hw rfl (Or.inl rfl) (ty := .int) (by decide +kernel) rfl rfl (Nat.le_of_ble_eq_true rfl) (fun b => by
    by_cases hb : b = q
    · subst hb; rw [va_up_self, g_at0 hK]; simp [g_f0, g_up, va_rf]
    · rw [va_up_ne _ _ hb]; exact (g_cell_congr rfl rfl (fun f => g_up_ne2 _ _ hb) rfl (fun f => rfl) rfl).symm) hd (kk _ rfl)
theorem g_get_Delivery_boxes {idx q : Nat} (hd : decode cc pc = .ok (.getfield idx, 3)) (hw : Cond.fieldLink y.cls idx "TileFactory$Delivery" "boxes" "I" ∈ lw_good) (hK : K q = 1) (kk : gJ Y X y cc nL ret rm po px k n (pc + 3) L (vi (I 1 q) :: st) K N I A R Q) : gJ Y X y cc nL ret rm po px k n pc L (.ref q :: st) K N I A R Q := g_getG lg_in0 rfl (by rw [hK]; decide) (g_at0 hK) 1 (by decide) hw rfl rfl hd kk
theorem g_put_Delivery_boxes {idx q : Nat} {z : Int} (hd : decode cc pc = .ok (.putfield idx, 3)) (hw : Cond.fieldLink y.cls idx "TileFactory$Delivery" "boxes" "I" ∈ lw_good) (hK : K q = 1) (kk : ∀ (I' : Nat → Nat → Int), I' = g_up I 1 q z → gJ Y X y cc nL ret rm po px k n (pc + 3) L st K N I' A R Q) : gJ Y X y cc nL ret rm po px k n pc L (vi z :: .ref q :: st) K N I A R Q :=
  g_putG lg_in0 tyX1 tyX1_ok nmX1 rfl (by rw [hK]; decide) (g_at0 hK) 1 (by decide) hw rfl (Or.inl rfl) (ty := .int) (by decide +kernel) rfl rfl (Nat.le_of_ble_eq_true rfl) (fun b => by
    by_cases hb : b = q
    · subst hb; rw [va_up_self, g_at0 hK]; simp [g_f0, g_up, va_rf]
    · rw [va_up_ne _ _ hb]; exact (g_cell_congr rfl rfl (fun f => g_up_ne2 _ _ hb) rfl (fun f => rfl) rfl).symm) hd (kk _ rfl)
theorem g_get_Delivery_out {idx q : Nat} (hd : decode cc pc = .ok (.getfield idx, 3)) (hw : Cond.fieldLink y.cls idx "TileFactory$Delivery" "out" "I" ∈ lw_good) (hK : K q = 1) (kk : gJ Y X y cc nL ret rm po px k n (pc + 3) L (vi (I 2 q) :: st) K N I A R Q) : gJ Y X y cc nL ret rm po px k n pc L (.ref q :: st) K N I A R Q := g_getG lg_in0 rfl (by rw [hK]; decide) (g_at0 hK) 2 (by decide) hw rfl rfl hd kk
theorem g_put_Delivery_out {idx q : Nat} {z : Int} (hd : decode cc pc = .ok (.putfield idx, 3)) (hw : Cond.fieldLink y.cls idx "TileFactory$Delivery" "out" "I" ∈ lw_good) (hK : K q = 1) (kk : ∀ (I' : Nat → Nat → Int), I' = g_up I 2 q z → gJ Y X y cc nL ret rm po px k n (pc + 3) L st K N I' A R Q) : gJ Y X y cc nL ret rm po px k n pc L (vi z :: .ref q :: st) K N I A R Q :=
  g_putG lg_in0 tyX1 tyX1_ok nmX1 rfl (by rw [hK]; decide) (g_at0 hK) 2 (by decide) hw rfl (Or.inl rfl) (ty := .int) (by decide +kernel) rfl rfl (Nat.le_of_ble_eq_true rfl) (fun b => by
    by_cases hb : b = q
    · subst hb; rw [va_up_self, g_at0 hK]; simp [g_f0, g_up, va_rf]
    · rw [va_up_ne _ _ hb]; exact (g_cell_congr rfl rfl (fun f => g_up_ne2 _ _ hb) rfl (fun f => rfl) rfl).symm) hd (kk _ rfl)
theorem g_get_Delivery_complaints {idx q : Nat} (hd : decode cc pc = .ok (.getfield idx, 3)) (hw : Cond.fieldLink y.cls idx "TileFactory$Delivery" "complaints" "I" ∈ lw_good) (hK : K q = 1) (kk : gJ Y X y cc nL ret rm po px k n (pc + 3) L (vi (I 3 q) :: st) K N I A R Q) : gJ Y X y cc nL ret rm po px k n pc L (.ref q :: st) K N I A R Q := g_getG lg_in0 rfl (by rw [hK]; decide) (g_at0 hK) 3 (by decide) hw rfl rfl hd kk
theorem g_put_Delivery_complaints {idx q : Nat} {z : Int} (hd : decode cc pc = .ok (.putfield idx, 3)) (hw : Cond.fieldLink y.cls idx "TileFactory$Delivery" "complaints" "I" ∈ lw_good) (hK : K q = 1) (kk : ∀ (I' : Nat → Nat → Int), I' = g_up I 3 q z → gJ Y X y cc nL ret rm po px k n (pc + 3) L st K N I' A R Q) : gJ Y X y cc nL ret rm po px k n pc L (vi z :: .ref q :: st) K N I A R Q :=
  g_putG lg_in0 tyX1 tyX1_ok nmX1 rfl (by rw [hK]; decide) (g_at0 hK) 3 (by decide) hw rfl (Or.inl rfl) (ty := .int) (by decide +kernel) rfl rfl (Nat.le_of_ble_eq_true rfl) (fun b => by
    by_cases hb : b = q
    · subst hb; rw [va_up_self, g_at0 hK]; simp [g_f0, g_up, va_rf]
    · rw [va_up_ne _ _ hb]; exact (g_cell_congr rfl rfl (fun f => g_up_ne2 _ _ hb) rfl (fun f => rfl) rfl).symm) hd (kk _ rfl)
theorem g_get_Delivery_value {idx q : Nat} (hd : decode cc pc = .ok (.getfield idx, 3)) (hw : Cond.fieldLink y.cls idx "TileFactory$Delivery" "value" "J" ∈ lw_good) (hK : K q = 1) (kk : gJ Y X y cc nL ret rm po px k n (pc + 3) L (vl (I 4 q) :: st) K N I A R Q) : gJ Y X y cc nL ret rm po px k n pc L (.ref q :: st) K N I A R Q := g_getG lg_in0 rfl (by rw [hK]; decide) (g_at0 hK) 4 (by decide) hw rfl rfl hd kk
theorem g_put_Delivery_value {idx q : Nat} {z : Int} (hd : decode cc pc = .ok (.putfield idx, 3)) (hw : Cond.fieldLink y.cls idx "TileFactory$Delivery" "value" "J" ∈ lw_good) (hK : K q = 1) (kk : ∀ (I' : Nat → Nat → Int), I' = g_up I 4 q z → gJ Y X y cc nL ret rm po px k n (pc + 3) L st K N I' A R Q) : gJ Y X y cc nL ret rm po px k n pc L (vl z :: .ref q :: st) K N I A R Q :=
  g_putG lg_in0 tyX1 tyX1_ok nmX1 rfl (by rw [hK]; decide) (g_at0 hK) 4 (by decide) hw rfl (Or.inl rfl) (ty := .long) (by decide +kernel) rfl rfl (Nat.le_of_ble_eq_true rfl) (fun b => by
    by_cases hb : b = q
    · subst hb; rw [va_up_self, g_at0 hK]; simp [g_f0, g_up, va_rf]
    · rw [va_up_ne _ _ hb]; exact (g_cell_congr rfl rfl (fun f => g_up_ne2 _ _ hb) rfl (fun f => rfl) rfl).symm) hd (kk _ rfl)
theorem g_get_EventLog_kinds {b : Nat} {idx q : Nat} (hd : decode cc pc = .ok (.getfield idx, 3)) (hw : Cond.fieldLink y.cls idx "TileFactory$EventLog" "kinds" "[I" ∈ lw_good) (hK : K q = 2) (hb : R 20 q = some b) (kk : gJ Y X y cc nL ret rm po px k n (pc + 3) L (.ref b :: st) K N I A R Q) : gJ Y X y cc nL ret rm po px k n pc L (.ref q :: st) K N I A R Q := g_getG lg_in1 rfl (by rw [hK]; decide) (g_at1 hK) 0 (by decide) hw rfl (by simp [g_f1, hb, va_rf]) hd kk
theorem g_put_EventLog_kinds {idx q : Nat} {z : Nat} (hd : decode cc pc = .ok (.putfield idx, 3)) (hw : Cond.fieldLink y.cls idx "TileFactory$EventLog" "kinds" "[I" ∈ lw_good) (hK : K q = 2) (hi : y.name = "<init>") (hdl : "TileFactory$EventLog" = y.cls) (kk : ∀ (R' : Nat → Nat → Option Nat), R' = g_up R 20 q (some z) → gJ Y X y cc nL ret rm po px k n (pc + 3) L st K N I A R' Q) : gJ Y X y cc nL ret rm po px k n pc L (.ref z :: .ref q :: st) K N I A R Q :=
  g_putG lg_in1 tyX2 tyX2_ok nmX2 rfl (by rw [hK]; decide) (g_at1 hK) 0 (by decide) hw rfl (Or.inr ⟨rfl, hi, hdl⟩) (ty := .array .int) (by decide +kernel) rfl rfl (Nat.le_of_ble_eq_true rfl) (fun b => by
    by_cases hb : b = q
    · subst hb; rw [va_up_self, g_at1 hK]; simp [g_f1, g_up, va_rf]
    · rw [va_up_ne _ _ hb]; exact (g_cell_congr rfl rfl (fun f => rfl) rfl (fun f => g_up_ne2 _ _ hb) rfl).symm) hd (kk _ rfl)
theorem g_get_EventLog_numbers {b : Nat} {idx q : Nat} (hd : decode cc pc = .ok (.getfield idx, 3)) (hw : Cond.fieldLink y.cls idx "TileFactory$EventLog" "numbers" "[I" ∈ lw_good) (hK : K q = 2) (hb : R 21 q = some b) (kk : gJ Y X y cc nL ret rm po px k n (pc + 3) L (.ref b :: st) K N I A R Q) : gJ Y X y cc nL ret rm po px k n pc L (.ref q :: st) K N I A R Q := g_getG lg_in1 rfl (by rw [hK]; decide) (g_at1 hK) 1 (by decide) hw rfl (by simp [g_f1, hb, va_rf]) hd kk
theorem g_put_EventLog_numbers {idx q : Nat} {z : Nat} (hd : decode cc pc = .ok (.putfield idx, 3)) (hw : Cond.fieldLink y.cls idx "TileFactory$EventLog" "numbers" "[I" ∈ lw_good) (hK : K q = 2) (hi : y.name = "<init>") (hdl : "TileFactory$EventLog" = y.cls) (kk : ∀ (R' : Nat → Nat → Option Nat), R' = g_up R 21 q (some z) → gJ Y X y cc nL ret rm po px k n (pc + 3) L st K N I A R' Q) : gJ Y X y cc nL ret rm po px k n pc L (.ref z :: .ref q :: st) K N I A R Q :=
  g_putG lg_in1 tyX2 tyX2_ok nmX2 rfl (by rw [hK]; decide) (g_at1 hK) 1 (by decide) hw rfl (Or.inr ⟨rfl, hi, hdl⟩) (ty := .array .int) (by decide +kernel) rfl rfl (Nat.le_of_ble_eq_true rfl) (fun b => by
    by_cases hb : b = q
    · subst hb; rw [va_up_self, g_at1 hK]; simp [g_f1, g_up, va_rf]
    · rw [va_up_ne _ _ hb]; exact (g_cell_congr rfl rfl (fun f => rfl) rfl (fun f => g_up_ne2 _ _ hb) rfl).symm) hd (kk _ rfl)
theorem g_get_EventLog_count {idx q : Nat} (hd : decode cc pc = .ok (.getfield idx, 3)) (hw : Cond.fieldLink y.cls idx "TileFactory$EventLog" "count" "I" ∈ lw_good) (hK : K q = 2) (kk : gJ Y X y cc nL ret rm po px k n (pc + 3) L (vi (I 22 q) :: st) K N I A R Q) : gJ Y X y cc nL ret rm po px k n pc L (.ref q :: st) K N I A R Q := g_getG lg_in1 rfl (by rw [hK]; decide) (g_at1 hK) 2 (by decide) hw rfl rfl hd kk
theorem g_put_EventLog_count {idx q : Nat} {z : Int} (hd : decode cc pc = .ok (.putfield idx, 3)) (hw : Cond.fieldLink y.cls idx "TileFactory$EventLog" "count" "I" ∈ lw_good) (hK : K q = 2) (kk : ∀ (I' : Nat → Nat → Int), I' = g_up I 22 q z → gJ Y X y cc nL ret rm po px k n (pc + 3) L st K N I' A R Q) : gJ Y X y cc nL ret rm po px k n pc L (vi z :: .ref q :: st) K N I A R Q :=
  g_putG lg_in1 tyX2 tyX2_ok nmX2 rfl (by rw [hK]; decide) (g_at1 hK) 2 (by decide) hw rfl (Or.inl rfl) (ty := .int) (by decide +kernel) rfl rfl (Nat.le_of_ble_eq_true rfl) (fun b => by
    by_cases hb : b = q
    · subst hb; rw [va_up_self, g_at1 hK]; simp [g_f1, g_up, va_rf]
    · rw [va_up_ne _ _ hb]; exact (g_cell_congr rfl rfl (fun f => g_up_ne2 _ _ hb) rfl (fun f => rfl) rfl).symm) hd (kk _ rfl)
theorem g_get_Glaze_base {idx q : Nat} (hd : decode cc pc = .ok (.getfield idx, 3)) (hw : Cond.fieldLink y.cls idx "TileFactory$Glaze" "base" "I" ∈ lw_good) (hK : K q = 3) (kk : gJ Y X y cc nL ret rm po px k n (pc + 3) L (vi (I 40 q) :: st) K N I A R Q) : gJ Y X y cc nL ret rm po px k n pc L (.ref q :: st) K N I A R Q := g_getG lg_in2 rfl (by rw [hK]; decide) (g_at2 hK) 0 (by decide) hw rfl rfl hd kk
theorem g_put_Glaze_base {idx q : Nat} {z : Int} (hd : decode cc pc = .ok (.putfield idx, 3)) (hw : Cond.fieldLink y.cls idx "TileFactory$Glaze" "base" "I" ∈ lw_good) (hK : K q = 3) (kk : ∀ (I' : Nat → Nat → Int), I' = g_up I 40 q z → gJ Y X y cc nL ret rm po px k n (pc + 3) L st K N I' A R Q) : gJ Y X y cc nL ret rm po px k n pc L (vi z :: .ref q :: st) K N I A R Q :=
  g_putG lg_in2 tyX4 tyX4_ok nmX4 rfl (by rw [hK]; decide) (g_at2 hK) 0 (by decide) hw rfl (Or.inl rfl) (ty := .int) (by decide +kernel) rfl rfl (Nat.le_of_ble_eq_true rfl) (fun b => by
    by_cases hb : b = q
    · subst hb; rw [va_up_self, g_at2 hK]; simp [g_f2, g_up, va_rf]
    · rw [va_up_ne _ _ hb]; exact (g_cell_congr rfl rfl (fun f => g_up_ne2 _ _ hb) rfl (fun f => rfl) rfl).symm) hd (kk _ rfl)
theorem g_get_Glaze_sensitivity {idx q : Nat} (hd : decode cc pc = .ok (.getfield idx, 3)) (hw : Cond.fieldLink y.cls idx "TileFactory$Glaze" "sensitivity" "I" ∈ lw_good) (hK : K q = 3) (kk : gJ Y X y cc nL ret rm po px k n (pc + 3) L (vi (I 41 q) :: st) K N I A R Q) : gJ Y X y cc nL ret rm po px k n pc L (.ref q :: st) K N I A R Q := g_getG lg_in2 rfl (by rw [hK]; decide) (g_at2 hK) 1 (by decide) hw rfl rfl hd kk
theorem g_put_Glaze_sensitivity {idx q : Nat} {z : Int} (hd : decode cc pc = .ok (.putfield idx, 3)) (hw : Cond.fieldLink y.cls idx "TileFactory$Glaze" "sensitivity" "I" ∈ lw_good) (hK : K q = 3) (kk : ∀ (I' : Nat → Nat → Int), I' = g_up I 41 q z → gJ Y X y cc nL ret rm po px k n (pc + 3) L st K N I' A R Q) : gJ Y X y cc nL ret rm po px k n pc L (vi z :: .ref q :: st) K N I A R Q :=
  g_putG lg_in2 tyX4 tyX4_ok nmX4 rfl (by rw [hK]; decide) (g_at2 hK) 1 (by decide) hw rfl (Or.inl rfl) (ty := .int) (by decide +kernel) rfl rfl (Nat.le_of_ble_eq_true rfl) (fun b => by
    by_cases hb : b = q
    · subst hb; rw [va_up_self, g_at2 hK]; simp [g_f2, g_up, va_rf]
    · rw [va_up_ne _ _ hb]; exact (g_cell_congr rfl rfl (fun f => g_up_ne2 _ _ hb) rfl (fun f => rfl) rfl).symm) hd (kk _ rfl)
theorem g_get_Glaze_defects {idx q : Nat} (hd : decode cc pc = .ok (.getfield idx, 3)) (hw : Cond.fieldLink y.cls idx "TileFactory$Glaze" "defects" "I" ∈ lw_good) (hK : K q = 3) (kk : gJ Y X y cc nL ret rm po px k n (pc + 3) L (vi (I 42 q) :: st) K N I A R Q) : gJ Y X y cc nL ret rm po px k n pc L (.ref q :: st) K N I A R Q := g_getG lg_in2 rfl (by rw [hK]; decide) (g_at2 hK) 2 (by decide) hw rfl rfl hd kk
theorem g_put_Glaze_defects {idx q : Nat} {z : Int} (hd : decode cc pc = .ok (.putfield idx, 3)) (hw : Cond.fieldLink y.cls idx "TileFactory$Glaze" "defects" "I" ∈ lw_good) (hK : K q = 3) (kk : ∀ (I' : Nat → Nat → Int), I' = g_up I 42 q z → gJ Y X y cc nL ret rm po px k n (pc + 3) L st K N I' A R Q) : gJ Y X y cc nL ret rm po px k n pc L (vi z :: .ref q :: st) K N I A R Q :=
  g_putG lg_in2 tyX4 tyX4_ok nmX4 rfl (by rw [hK]; decide) (g_at2 hK) 2 (by decide) hw rfl (Or.inl rfl) (ty := .int) (by decide +kernel) rfl rfl (Nat.le_of_ble_eq_true rfl) (fun b => by
    by_cases hb : b = q
    · subst hb; rw [va_up_self, g_at2 hK]; simp [g_f2, g_up, va_rf]
    · rw [va_up_ne _ _ hb]; exact (g_cell_congr rfl rfl (fun f => g_up_ne2 _ _ hb) rfl (fun f => rfl) rfl).symm) hd (kk _ rfl)
theorem g_get_Glaze_price {idx q : Nat} (hd : decode cc pc = .ok (.getfield idx, 3)) (hw : Cond.fieldLink y.cls idx "TileFactory$Glaze" "price" "I" ∈ lw_good) (hK : K q = 3) (kk : gJ Y X y cc nL ret rm po px k n (pc + 3) L (vi (I 43 q) :: st) K N I A R Q) : gJ Y X y cc nL ret rm po px k n pc L (.ref q :: st) K N I A R Q := g_getG lg_in2 rfl (by rw [hK]; decide) (g_at2 hK) 3 (by decide) hw rfl rfl hd kk
theorem g_put_Glaze_price {idx q : Nat} {z : Int} (hd : decode cc pc = .ok (.putfield idx, 3)) (hw : Cond.fieldLink y.cls idx "TileFactory$Glaze" "price" "I" ∈ lw_good) (hK : K q = 3) (kk : ∀ (I' : Nat → Nat → Int), I' = g_up I 43 q z → gJ Y X y cc nL ret rm po px k n (pc + 3) L st K N I' A R Q) : gJ Y X y cc nL ret rm po px k n pc L (vi z :: .ref q :: st) K N I A R Q :=
  g_putG lg_in2 tyX4 tyX4_ok nmX4 rfl (by rw [hK]; decide) (g_at2 hK) 3 (by decide) hw rfl (Or.inl rfl) (ty := .int) (by decide +kernel) rfl rfl (Nat.le_of_ble_eq_true rfl) (fun b => by
    by_cases hb : b = q
    · subst hb; rw [va_up_self, g_at2 hK]; simp [g_f2, g_up, va_rf]
    · rw [va_up_ne _ _ hb]; exact (g_cell_congr rfl rfl (fun f => g_up_ne2 _ _ hb) rfl (fun f => rfl) rfl).symm) hd (kk _ rfl)
theorem g_get_History_saved {b : Nat} {idx q : Nat} (hd : decode cc pc = .ok (.getfield idx, 3)) (hw : Cond.fieldLink y.cls idx "TileFactory$History" "saved" "[LTileFactory$State;" ∈ lw_good) (hK : K q = 4) (hb : R 60 q = some b) (kk : gJ Y X y cc nL ret rm po px k n (pc + 3) L (.ref b :: st) K N I A R Q) : gJ Y X y cc nL ret rm po px k n pc L (.ref q :: st) K N I A R Q := g_getG lg_in3 rfl (by rw [hK]; decide) (g_at3 hK) 0 (by decide) hw rfl (by simp [g_f3, hb, va_rf]) hd kk
theorem g_put_History_saved {idx q : Nat} {z : Nat} (hd : decode cc pc = .ok (.putfield idx, 3)) (hw : Cond.fieldLink y.cls idx "TileFactory$History" "saved" "[LTileFactory$State;" ∈ lw_good) (hK : K q = 4) (hi : y.name = "<init>") (hdl : "TileFactory$History" = y.cls) (kk : ∀ (R' : Nat → Nat → Option Nat), R' = g_up R 60 q (some z) → gJ Y X y cc nL ret rm po px k n (pc + 3) L st K N I A R' Q) : gJ Y X y cc nL ret rm po px k n pc L (.ref z :: .ref q :: st) K N I A R Q :=
  g_putG lg_in3 tyX5 tyX5_ok nmX5 rfl (by rw [hK]; decide) (g_at3 hK) 0 (by decide) hw rfl (Or.inr ⟨rfl, hi, hdl⟩) (ty := .array (.object "TileFactory$State")) (by decide +kernel) rfl rfl (Nat.le_of_ble_eq_true rfl) (fun b => by
    by_cases hb : b = q
    · subst hb; rw [va_up_self, g_at3 hK]; simp [g_f3, g_up, va_rf]
    · rw [va_up_ne _ _ hb]; exact (g_cell_congr rfl rfl (fun f => rfl) rfl (fun f => g_up_ne2 _ _ hb) rfl).symm) hd (kk _ rfl)
theorem g_get_History_count {idx q : Nat} (hd : decode cc pc = .ok (.getfield idx, 3)) (hw : Cond.fieldLink y.cls idx "TileFactory$History" "count" "I" ∈ lw_good) (hK : K q = 4) (kk : gJ Y X y cc nL ret rm po px k n (pc + 3) L (vi (I 61 q) :: st) K N I A R Q) : gJ Y X y cc nL ret rm po px k n pc L (.ref q :: st) K N I A R Q := g_getG lg_in3 rfl (by rw [hK]; decide) (g_at3 hK) 1 (by decide) hw rfl rfl hd kk
theorem g_put_History_count {idx q : Nat} {z : Int} (hd : decode cc pc = .ok (.putfield idx, 3)) (hw : Cond.fieldLink y.cls idx "TileFactory$History" "count" "I" ∈ lw_good) (hK : K q = 4) (kk : ∀ (I' : Nat → Nat → Int), I' = g_up I 61 q z → gJ Y X y cc nL ret rm po px k n (pc + 3) L st K N I' A R Q) : gJ Y X y cc nL ret rm po px k n pc L (vi z :: .ref q :: st) K N I A R Q :=
  g_putG lg_in3 tyX5 tyX5_ok nmX5 rfl (by rw [hK]; decide) (g_at3 hK) 1 (by decide) hw rfl (Or.inl rfl) (ty := .int) (by decide +kernel) rfl rfl (Nat.le_of_ble_eq_true rfl) (fun b => by
    by_cases hb : b = q
    · subst hb; rw [va_up_self, g_at3 hK]; simp [g_f3, g_up, va_rf]
    · rw [va_up_ne _ _ hb]; exact (g_cell_congr rfl rfl (fun f => g_up_ne2 _ _ hb) rfl (fun f => rfl) rfl).symm) hd (kk _ rfl)
theorem g_get_Lot_glaze {idx q : Nat} (hd : decode cc pc = .ok (.getfield idx, 3)) (hw : Cond.fieldLink y.cls idx "TileFactory$Lot" "glaze" "I" ∈ lw_good) (hK : K q = 5) (kk : gJ Y X y cc nL ret rm po px k n (pc + 3) L (vi (I 80 q) :: st) K N I A R Q) : gJ Y X y cc nL ret rm po px k n pc L (.ref q :: st) K N I A R Q := g_getG lg_in4 rfl (by rw [hK]; decide) (g_at4 hK) 0 (by decide) hw rfl rfl hd kk
theorem g_put_Lot_glaze {idx q : Nat} {z : Int} (hd : decode cc pc = .ok (.putfield idx, 3)) (hw : Cond.fieldLink y.cls idx "TileFactory$Lot" "glaze" "I" ∈ lw_good) (hK : K q = 5) (kk : ∀ (I' : Nat → Nat → Int), I' = g_up I 80 q z → gJ Y X y cc nL ret rm po px k n (pc + 3) L st K N I' A R Q) : gJ Y X y cc nL ret rm po px k n pc L (vi z :: .ref q :: st) K N I A R Q :=
  g_putG lg_in4 tyX6 tyX6_ok nmX6 rfl (by rw [hK]; decide) (g_at4 hK) 0 (by decide) hw rfl (Or.inl rfl) (ty := .int) (by decide +kernel) rfl rfl (Nat.le_of_ble_eq_true rfl) (fun b => by
    by_cases hb : b = q
    · subst hb; rw [va_up_self, g_at4 hK]; simp [g_f4, g_up, va_rf]
    · rw [va_up_ne _ _ hb]; exact (g_cell_congr rfl rfl (fun f => g_up_ne2 _ _ hb) rfl (fun f => rfl) rfl).symm) hd (kk _ rfl)
theorem g_get_Lot_shade {idx q : Nat} (hd : decode cc pc = .ok (.getfield idx, 3)) (hw : Cond.fieldLink y.cls idx "TileFactory$Lot" "shade" "I" ∈ lw_good) (hK : K q = 5) (kk : gJ Y X y cc nL ret rm po px k n (pc + 3) L (vi (I 81 q) :: st) K N I A R Q) : gJ Y X y cc nL ret rm po px k n pc L (.ref q :: st) K N I A R Q := g_getG lg_in4 rfl (by rw [hK]; decide) (g_at4 hK) 1 (by decide) hw rfl rfl hd kk
theorem g_put_Lot_shade {idx q : Nat} {z : Int} (hd : decode cc pc = .ok (.putfield idx, 3)) (hw : Cond.fieldLink y.cls idx "TileFactory$Lot" "shade" "I" ∈ lw_good) (hK : K q = 5) (kk : ∀ (I' : Nat → Nat → Int), I' = g_up I 81 q z → gJ Y X y cc nL ret rm po px k n (pc + 3) L st K N I' A R Q) : gJ Y X y cc nL ret rm po px k n pc L (vi z :: .ref q :: st) K N I A R Q :=
  g_putG lg_in4 tyX6 tyX6_ok nmX6 rfl (by rw [hK]; decide) (g_at4 hK) 1 (by decide) hw rfl (Or.inl rfl) (ty := .int) (by decide +kernel) rfl rfl (Nat.le_of_ble_eq_true rfl) (fun b => by
    by_cases hb : b = q
    · subst hb; rw [va_up_self, g_at4 hK]; simp [g_f4, g_up, va_rf]
    · rw [va_up_ne _ _ hb]; exact (g_cell_congr rfl rfl (fun f => g_up_ne2 _ _ hb) rfl (fun f => rfl) rfl).symm) hd (kk _ rfl)
theorem g_get_Lot_grade {idx q : Nat} (hd : decode cc pc = .ok (.getfield idx, 3)) (hw : Cond.fieldLink y.cls idx "TileFactory$Lot" "grade" "I" ∈ lw_good) (hK : K q = 5) (kk : gJ Y X y cc nL ret rm po px k n (pc + 3) L (vi (I 82 q) :: st) K N I A R Q) : gJ Y X y cc nL ret rm po px k n pc L (.ref q :: st) K N I A R Q := g_getG lg_in4 rfl (by rw [hK]; decide) (g_at4 hK) 2 (by decide) hw rfl rfl hd kk
theorem g_put_Lot_grade {idx q : Nat} {z : Int} (hd : decode cc pc = .ok (.putfield idx, 3)) (hw : Cond.fieldLink y.cls idx "TileFactory$Lot" "grade" "I" ∈ lw_good) (hK : K q = 5) (kk : ∀ (I' : Nat → Nat → Int), I' = g_up I 82 q z → gJ Y X y cc nL ret rm po px k n (pc + 3) L st K N I' A R Q) : gJ Y X y cc nL ret rm po px k n pc L (vi z :: .ref q :: st) K N I A R Q :=
  g_putG lg_in4 tyX6 tyX6_ok nmX6 rfl (by rw [hK]; decide) (g_at4 hK) 2 (by decide) hw rfl (Or.inl rfl) (ty := .int) (by decide +kernel) rfl rfl (Nat.le_of_ble_eq_true rfl) (fun b => by
    by_cases hb : b = q
    · subst hb; rw [va_up_self, g_at4 hK]; simp [g_f4, g_up, va_rf]
    · rw [va_up_ne _ _ hb]; exact (g_cell_congr rfl rfl (fun f => g_up_ne2 _ _ hb) rfl (fun f => rfl) rfl).symm) hd (kk _ rfl)
theorem g_get_Lot_loose {idx q : Nat} (hd : decode cc pc = .ok (.getfield idx, 3)) (hw : Cond.fieldLink y.cls idx "TileFactory$Lot" "loose" "I" ∈ lw_good) (hK : K q = 5) (kk : gJ Y X y cc nL ret rm po px k n (pc + 3) L (vi (I 83 q) :: st) K N I A R Q) : gJ Y X y cc nL ret rm po px k n pc L (.ref q :: st) K N I A R Q := g_getG lg_in4 rfl (by rw [hK]; decide) (g_at4 hK) 3 (by decide) hw rfl rfl hd kk
theorem g_put_Lot_loose {idx q : Nat} {z : Int} (hd : decode cc pc = .ok (.putfield idx, 3)) (hw : Cond.fieldLink y.cls idx "TileFactory$Lot" "loose" "I" ∈ lw_good) (hK : K q = 5) (kk : ∀ (I' : Nat → Nat → Int), I' = g_up I 83 q z → gJ Y X y cc nL ret rm po px k n (pc + 3) L st K N I' A R Q) : gJ Y X y cc nL ret rm po px k n pc L (vi z :: .ref q :: st) K N I A R Q :=
  g_putG lg_in4 tyX6 tyX6_ok nmX6 rfl (by rw [hK]; decide) (g_at4 hK) 3 (by decide) hw rfl (Or.inl rfl) (ty := .int) (by decide +kernel) rfl rfl (Nat.le_of_ble_eq_true rfl) (fun b => by
    by_cases hb : b = q
    · subst hb; rw [va_up_self, g_at4 hK]; simp [g_f4, g_up, va_rf]
    · rw [va_up_ne _ _ hb]; exact (g_cell_congr rfl rfl (fun f => g_up_ne2 _ _ hb) rfl (fun f => rfl) rfl).symm) hd (kk _ rfl)
theorem g_get_Lot_boxes {idx q : Nat} (hd : decode cc pc = .ok (.getfield idx, 3)) (hw : Cond.fieldLink y.cls idx "TileFactory$Lot" "boxes" "I" ∈ lw_good) (hK : K q = 5) (kk : gJ Y X y cc nL ret rm po px k n (pc + 3) L (vi (I 84 q) :: st) K N I A R Q) : gJ Y X y cc nL ret rm po px k n pc L (.ref q :: st) K N I A R Q := g_getG lg_in4 rfl (by rw [hK]; decide) (g_at4 hK) 4 (by decide) hw rfl rfl hd kk
theorem g_put_Lot_boxes {idx q : Nat} {z : Int} (hd : decode cc pc = .ok (.putfield idx, 3)) (hw : Cond.fieldLink y.cls idx "TileFactory$Lot" "boxes" "I" ∈ lw_good) (hK : K q = 5) (kk : ∀ (I' : Nat → Nat → Int), I' = g_up I 84 q z → gJ Y X y cc nL ret rm po px k n (pc + 3) L st K N I' A R Q) : gJ Y X y cc nL ret rm po px k n pc L (vi z :: .ref q :: st) K N I A R Q :=
  g_putG lg_in4 tyX6 tyX6_ok nmX6 rfl (by rw [hK]; decide) (g_at4 hK) 4 (by decide) hw rfl (Or.inl rfl) (ty := .int) (by decide +kernel) rfl rfl (Nat.le_of_ble_eq_true rfl) (fun b => by
    by_cases hb : b = q
    · subst hb; rw [va_up_self, g_at4 hK]; simp [g_f4, g_up, va_rf]
    · rw [va_up_ne _ _ hb]; exact (g_cell_congr rfl rfl (fun f => g_up_ne2 _ _ hb) rfl (fun f => rfl) rfl).symm) hd (kk _ rfl)
theorem g_get_Lot_hidden {idx q : Nat} (hd : decode cc pc = .ok (.getfield idx, 3)) (hw : Cond.fieldLink y.cls idx "TileFactory$Lot" "hidden" "I" ∈ lw_good) (hK : K q = 5) (kk : gJ Y X y cc nL ret rm po px k n (pc + 3) L (vi (I 85 q) :: st) K N I A R Q) : gJ Y X y cc nL ret rm po px k n pc L (.ref q :: st) K N I A R Q := g_getG lg_in4 rfl (by rw [hK]; decide) (g_at4 hK) 5 (by decide) hw rfl rfl hd kk
theorem g_put_Lot_hidden {idx q : Nat} {z : Int} (hd : decode cc pc = .ok (.putfield idx, 3)) (hw : Cond.fieldLink y.cls idx "TileFactory$Lot" "hidden" "I" ∈ lw_good) (hK : K q = 5) (kk : ∀ (I' : Nat → Nat → Int), I' = g_up I 85 q z → gJ Y X y cc nL ret rm po px k n (pc + 3) L st K N I' A R Q) : gJ Y X y cc nL ret rm po px k n pc L (vi z :: .ref q :: st) K N I A R Q :=
  g_putG lg_in4 tyX6 tyX6_ok nmX6 rfl (by rw [hK]; decide) (g_at4 hK) 5 (by decide) hw rfl (Or.inl rfl) (ty := .int) (by decide +kernel) rfl rfl (Nat.le_of_ble_eq_true rfl) (fun b => by
    by_cases hb : b = q
    · subst hb; rw [va_up_self, g_at4 hK]; simp [g_f4, g_up, va_rf]
    · rw [va_up_ne _ _ hb]; exact (g_cell_congr rfl rfl (fun f => g_up_ne2 _ _ hb) rfl (fun f => rfl) rfl).symm) hd (kk _ rfl)
theorem g_get_Pile_glaze {idx q : Nat} (hd : decode cc pc = .ok (.getfield idx, 3)) (hw : Cond.fieldLink y.cls idx "TileFactory$Pile" "glaze" "I" ∈ lw_good) (hK : K q = 6) (kk : gJ Y X y cc nL ret rm po px k n (pc + 3) L (vi (I 100 q) :: st) K N I A R Q) : gJ Y X y cc nL ret rm po px k n pc L (.ref q :: st) K N I A R Q := g_getG lg_in5 rfl (by rw [hK]; decide) (g_at5 hK) 0 (by decide) hw rfl rfl hd kk
theorem g_put_Pile_glaze {idx q : Nat} {z : Int} (hd : decode cc pc = .ok (.putfield idx, 3)) (hw : Cond.fieldLink y.cls idx "TileFactory$Pile" "glaze" "I" ∈ lw_good) (hK : K q = 6) (kk : ∀ (I' : Nat → Nat → Int), I' = g_up I 100 q z → gJ Y X y cc nL ret rm po px k n (pc + 3) L st K N I' A R Q) : gJ Y X y cc nL ret rm po px k n pc L (vi z :: .ref q :: st) K N I A R Q :=
  g_putG lg_in5 tyX7 tyX7_ok nmX7 rfl (by rw [hK]; decide) (g_at5 hK) 0 (by decide) hw rfl (Or.inl rfl) (ty := .int) (by decide +kernel) rfl rfl (Nat.le_of_ble_eq_true rfl) (fun b => by
    by_cases hb : b = q
    · subst hb; rw [va_up_self, g_at5 hK]; simp [g_f5, g_up, va_rf]
    · rw [va_up_ne _ _ hb]; exact (g_cell_congr rfl rfl (fun f => g_up_ne2 _ _ hb) rfl (fun f => rfl) rfl).symm) hd (kk _ rfl)
theorem g_get_Pile_shade {idx q : Nat} (hd : decode cc pc = .ok (.getfield idx, 3)) (hw : Cond.fieldLink y.cls idx "TileFactory$Pile" "shade" "I" ∈ lw_good) (hK : K q = 6) (kk : gJ Y X y cc nL ret rm po px k n (pc + 3) L (vi (I 101 q) :: st) K N I A R Q) : gJ Y X y cc nL ret rm po px k n pc L (.ref q :: st) K N I A R Q := g_getG lg_in5 rfl (by rw [hK]; decide) (g_at5 hK) 1 (by decide) hw rfl rfl hd kk
theorem g_put_Pile_shade {idx q : Nat} {z : Int} (hd : decode cc pc = .ok (.putfield idx, 3)) (hw : Cond.fieldLink y.cls idx "TileFactory$Pile" "shade" "I" ∈ lw_good) (hK : K q = 6) (kk : ∀ (I' : Nat → Nat → Int), I' = g_up I 101 q z → gJ Y X y cc nL ret rm po px k n (pc + 3) L st K N I' A R Q) : gJ Y X y cc nL ret rm po px k n pc L (vi z :: .ref q :: st) K N I A R Q :=
  g_putG lg_in5 tyX7 tyX7_ok nmX7 rfl (by rw [hK]; decide) (g_at5 hK) 1 (by decide) hw rfl (Or.inl rfl) (ty := .int) (by decide +kernel) rfl rfl (Nat.le_of_ble_eq_true rfl) (fun b => by
    by_cases hb : b = q
    · subst hb; rw [va_up_self, g_at5 hK]; simp [g_f5, g_up, va_rf]
    · rw [va_up_ne _ _ hb]; exact (g_cell_congr rfl rfl (fun f => g_up_ne2 _ _ hb) rfl (fun f => rfl) rfl).symm) hd (kk _ rfl)
theorem g_get_Pile_tiles {idx q : Nat} (hd : decode cc pc = .ok (.getfield idx, 3)) (hw : Cond.fieldLink y.cls idx "TileFactory$Pile" "tiles" "I" ∈ lw_good) (hK : K q = 6) (kk : gJ Y X y cc nL ret rm po px k n (pc + 3) L (vi (I 102 q) :: st) K N I A R Q) : gJ Y X y cc nL ret rm po px k n pc L (.ref q :: st) K N I A R Q := g_getG lg_in5 rfl (by rw [hK]; decide) (g_at5 hK) 2 (by decide) hw rfl rfl hd kk
theorem g_put_Pile_tiles {idx q : Nat} {z : Int} (hd : decode cc pc = .ok (.putfield idx, 3)) (hw : Cond.fieldLink y.cls idx "TileFactory$Pile" "tiles" "I" ∈ lw_good) (hK : K q = 6) (kk : ∀ (I' : Nat → Nat → Int), I' = g_up I 102 q z → gJ Y X y cc nL ret rm po px k n (pc + 3) L st K N I' A R Q) : gJ Y X y cc nL ret rm po px k n pc L (vi z :: .ref q :: st) K N I A R Q :=
  g_putG lg_in5 tyX7 tyX7_ok nmX7 rfl (by rw [hK]; decide) (g_at5 hK) 2 (by decide) hw rfl (Or.inl rfl) (ty := .int) (by decide +kernel) rfl rfl (Nat.le_of_ble_eq_true rfl) (fun b => by
    by_cases hb : b = q
    · subst hb; rw [va_up_self, g_at5 hK]; simp [g_f5, g_up, va_rf]
    · rw [va_up_ne _ _ hb]; exact (g_cell_congr rfl rfl (fun f => g_up_ne2 _ _ hb) rfl (fun f => rfl) rfl).symm) hd (kk _ rfl)
theorem g_get_Pile_hidden {idx q : Nat} (hd : decode cc pc = .ok (.getfield idx, 3)) (hw : Cond.fieldLink y.cls idx "TileFactory$Pile" "hidden" "I" ∈ lw_good) (hK : K q = 6) (kk : gJ Y X y cc nL ret rm po px k n (pc + 3) L (vi (I 103 q) :: st) K N I A R Q) : gJ Y X y cc nL ret rm po px k n pc L (.ref q :: st) K N I A R Q := g_getG lg_in5 rfl (by rw [hK]; decide) (g_at5 hK) 3 (by decide) hw rfl rfl hd kk
theorem g_put_Pile_hidden {idx q : Nat} {z : Int} (hd : decode cc pc = .ok (.putfield idx, 3)) (hw : Cond.fieldLink y.cls idx "TileFactory$Pile" "hidden" "I" ∈ lw_good) (hK : K q = 6) (kk : ∀ (I' : Nat → Nat → Int), I' = g_up I 103 q z → gJ Y X y cc nL ret rm po px k n (pc + 3) L st K N I' A R Q) : gJ Y X y cc nL ret rm po px k n pc L (vi z :: .ref q :: st) K N I A R Q :=
  g_putG lg_in5 tyX7 tyX7_ok nmX7 rfl (by rw [hK]; decide) (g_at5 hK) 3 (by decide) hw rfl (Or.inl rfl) (ty := .int) (by decide +kernel) rfl rfl (Nat.le_of_ble_eq_true rfl) (fun b => by
    by_cases hb : b = q
    · subst hb; rw [va_up_self, g_at5 hK]; simp [g_f5, g_up, va_rf]
    · rw [va_up_ne _ _ hb]; exact (g_cell_congr rfl rfl (fun f => g_up_ne2 _ _ hb) rfl (fun f => rfl) rfl).symm) hd (kk _ rfl)
theorem g_get_Position_slope {idx q : Nat} (hd : decode cc pc = .ok (.getfield idx, 3)) (hw : Cond.fieldLink y.cls idx "TileFactory$Position" "slope" "I" ∈ lw_good) (hK : K q = 7) (kk : gJ Y X y cc nL ret rm po px k n (pc + 3) L (vi (I 120 q) :: st) K N I A R Q) : gJ Y X y cc nL ret rm po px k n pc L (.ref q :: st) K N I A R Q := g_getG lg_in6 rfl (by rw [hK]; decide) (g_at6 hK) 0 (by decide) hw rfl rfl hd kk
theorem g_put_Position_slope {idx q : Nat} {z : Int} (hd : decode cc pc = .ok (.putfield idx, 3)) (hw : Cond.fieldLink y.cls idx "TileFactory$Position" "slope" "I" ∈ lw_good) (hK : K q = 7) (hi : y.name = "<init>") (hdl : "TileFactory$Position" = y.cls) (kk : ∀ (I' : Nat → Nat → Int), I' = g_up I 120 q z → gJ Y X y cc nL ret rm po px k n (pc + 3) L st K N I' A R Q) : gJ Y X y cc nL ret rm po px k n pc L (vi z :: .ref q :: st) K N I A R Q :=
  g_putG lg_in6 tyX8 tyX8_ok nmX8 rfl (by rw [hK]; decide) (g_at6 hK) 0 (by decide) hw rfl (Or.inr ⟨rfl, hi, hdl⟩) (ty := .int) (by decide +kernel) rfl rfl (Nat.le_of_ble_eq_true rfl) (fun b => by
    by_cases hb : b = q
    · subst hb; rw [va_up_self, g_at6 hK]; simp [g_f6, g_up, va_rf]
    · rw [va_up_ne _ _ hb]; exact (g_cell_congr rfl rfl (fun f => g_up_ne2 _ _ hb) rfl (fun f => rfl) rfl).symm) hd (kk _ rfl)
theorem g_get_Position_offset {idx q : Nat} (hd : decode cc pc = .ok (.getfield idx, 3)) (hw : Cond.fieldLink y.cls idx "TileFactory$Position" "offset" "I" ∈ lw_good) (hK : K q = 7) (kk : gJ Y X y cc nL ret rm po px k n (pc + 3) L (vi (I 121 q) :: st) K N I A R Q) : gJ Y X y cc nL ret rm po px k n pc L (.ref q :: st) K N I A R Q := g_getG lg_in6 rfl (by rw [hK]; decide) (g_at6 hK) 1 (by decide) hw rfl rfl hd kk
theorem g_put_Position_offset {idx q : Nat} {z : Int} (hd : decode cc pc = .ok (.putfield idx, 3)) (hw : Cond.fieldLink y.cls idx "TileFactory$Position" "offset" "I" ∈ lw_good) (hK : K q = 7) (kk : ∀ (I' : Nat → Nat → Int), I' = g_up I 121 q z → gJ Y X y cc nL ret rm po px k n (pc + 3) L st K N I' A R Q) : gJ Y X y cc nL ret rm po px k n pc L (vi z :: .ref q :: st) K N I A R Q :=
  g_putG lg_in6 tyX8 tyX8_ok nmX8 rfl (by rw [hK]; decide) (g_at6 hK) 1 (by decide) hw rfl (Or.inl rfl) (ty := .int) (by decide +kernel) rfl rfl (Nat.le_of_ble_eq_true rfl) (fun b => by
    by_cases hb : b = q
    · subst hb; rw [va_up_self, g_at6 hK]; simp [g_f6, g_up, va_rf]
    · rw [va_up_ne _ _ hb]; exact (g_cell_congr rfl rfl (fun f => g_up_ne2 _ _ hb) rfl (fun f => rfl) rfl).symm) hd (kk _ rfl)
theorem g_get_Position_breakage {idx q : Nat} (hd : decode cc pc = .ok (.getfield idx, 3)) (hw : Cond.fieldLink y.cls idx "TileFactory$Position" "breakage" "I" ∈ lw_good) (hK : K q = 7) (kk : gJ Y X y cc nL ret rm po px k n (pc + 3) L (vi (I 122 q) :: st) K N I A R Q) : gJ Y X y cc nL ret rm po px k n pc L (.ref q :: st) K N I A R Q := g_getG lg_in6 rfl (by rw [hK]; decide) (g_at6 hK) 2 (by decide) hw rfl rfl hd kk
theorem g_put_Position_breakage {idx q : Nat} {z : Int} (hd : decode cc pc = .ok (.putfield idx, 3)) (hw : Cond.fieldLink y.cls idx "TileFactory$Position" "breakage" "I" ∈ lw_good) (hK : K q = 7) (kk : ∀ (I' : Nat → Nat → Int), I' = g_up I 122 q z → gJ Y X y cc nL ret rm po px k n (pc + 3) L st K N I' A R Q) : gJ Y X y cc nL ret rm po px k n pc L (vi z :: .ref q :: st) K N I A R Q :=
  g_putG lg_in6 tyX8 tyX8_ok nmX8 rfl (by rw [hK]; decide) (g_at6 hK) 2 (by decide) hw rfl (Or.inl rfl) (ty := .int) (by decide +kernel) rfl rfl (Nat.le_of_ble_eq_true rfl) (fun b => by
    by_cases hb : b = q
    · subst hb; rw [va_up_self, g_at6 hK]; simp [g_f6, g_up, va_rf]
    · rw [va_up_ne _ _ hb]; exact (g_cell_congr rfl rfl (fun f => g_up_ne2 _ _ hb) rfl (fun f => rfl) rfl).symm) hd (kk _ rfl)
theorem g_get_Position_broken {idx q : Nat} (hd : decode cc pc = .ok (.getfield idx, 3)) (hw : Cond.fieldLink y.cls idx "TileFactory$Position" "broken" "I" ∈ lw_good) (hK : K q = 7) (kk : gJ Y X y cc nL ret rm po px k n (pc + 3) L (vi (I 123 q) :: st) K N I A R Q) : gJ Y X y cc nL ret rm po px k n pc L (.ref q :: st) K N I A R Q := g_getG lg_in6 rfl (by rw [hK]; decide) (g_at6 hK) 3 (by decide) hw rfl rfl hd kk
theorem g_put_Position_broken {idx q : Nat} {z : Int} (hd : decode cc pc = .ok (.putfield idx, 3)) (hw : Cond.fieldLink y.cls idx "TileFactory$Position" "broken" "I" ∈ lw_good) (hK : K q = 7) (kk : ∀ (I' : Nat → Nat → Int), I' = g_up I 123 q z → gJ Y X y cc nL ret rm po px k n (pc + 3) L st K N I' A R Q) : gJ Y X y cc nL ret rm po px k n pc L (vi z :: .ref q :: st) K N I A R Q :=
  g_putG lg_in6 tyX8 tyX8_ok nmX8 rfl (by rw [hK]; decide) (g_at6 hK) 3 (by decide) hw rfl (Or.inl rfl) (ty := .int) (by decide +kernel) rfl rfl (Nat.le_of_ble_eq_true rfl) (fun b => by
    by_cases hb : b = q
    · subst hb; rw [va_up_self, g_at6 hK]; simp [g_f6, g_up, va_rf]
    · rw [va_up_ne _ _ hb]; exact (g_cell_congr rfl rfl (fun f => g_up_ne2 _ _ hb) rfl (fun f => rfl) rfl).symm) hd (kk _ rfl)
theorem g_get_Script_signs {b : Nat} {idx q : Nat} (hd : decode cc pc = .ok (.getfield idx, 3)) (hw : Cond.fieldLink y.cls idx "TileFactory$Script" "signs" "[C" ∈ lw_good) (hK : K q = 8) (hb : R 140 q = some b) (kk : gJ Y X y cc nL ret rm po px k n (pc + 3) L (.ref b :: st) K N I A R Q) : gJ Y X y cc nL ret rm po px k n pc L (.ref q :: st) K N I A R Q := g_getG lg_in7 rfl (by rw [hK]; decide) (g_at7 hK) 0 (by decide) hw rfl (by simp [g_f7, hb, va_rf]) hd kk
theorem g_put_Script_signs {idx q : Nat} {z : Nat} (hd : decode cc pc = .ok (.putfield idx, 3)) (hw : Cond.fieldLink y.cls idx "TileFactory$Script" "signs" "[C" ∈ lw_good) (hK : K q = 8) (hi : y.name = "<init>") (hdl : "TileFactory$Script" = y.cls) (kk : ∀ (R' : Nat → Nat → Option Nat), R' = g_up R 140 q (some z) → gJ Y X y cc nL ret rm po px k n (pc + 3) L st K N I A R' Q) : gJ Y X y cc nL ret rm po px k n pc L (.ref z :: .ref q :: st) K N I A R Q :=
  g_putG lg_in7 tyX9 tyX9_ok nmX9 rfl (by rw [hK]; decide) (g_at7 hK) 0 (by decide) hw rfl (Or.inr ⟨rfl, hi, hdl⟩) (ty := .array .char) (by decide +kernel) rfl rfl (Nat.le_of_ble_eq_true rfl) (fun b => by
    by_cases hb : b = q
    · subst hb; rw [va_up_self, g_at7 hK]; simp [g_f7, g_up, va_rf]
    · rw [va_up_ne _ _ hb]; exact (g_cell_congr rfl rfl (fun f => rfl) rfl (fun f => g_up_ne2 _ _ hb) rfl).symm) hd (kk _ rfl)
theorem g_get_Script_length {idx q : Nat} (hd : decode cc pc = .ok (.getfield idx, 3)) (hw : Cond.fieldLink y.cls idx "TileFactory$Script" "length" "I" ∈ lw_good) (hK : K q = 8) (kk : gJ Y X y cc nL ret rm po px k n (pc + 3) L (vi (I 141 q) :: st) K N I A R Q) : gJ Y X y cc nL ret rm po px k n pc L (.ref q :: st) K N I A R Q := g_getG lg_in7 rfl (by rw [hK]; decide) (g_at7 hK) 1 (by decide) hw rfl rfl hd kk
theorem g_put_Script_length {idx q : Nat} {z : Int} (hd : decode cc pc = .ok (.putfield idx, 3)) (hw : Cond.fieldLink y.cls idx "TileFactory$Script" "length" "I" ∈ lw_good) (hK : K q = 8) (kk : ∀ (I' : Nat → Nat → Int), I' = g_up I 141 q z → gJ Y X y cc nL ret rm po px k n (pc + 3) L st K N I' A R Q) : gJ Y X y cc nL ret rm po px k n pc L (vi z :: .ref q :: st) K N I A R Q :=
  g_putG lg_in7 tyX9 tyX9_ok nmX9 rfl (by rw [hK]; decide) (g_at7 hK) 1 (by decide) hw rfl (Or.inl rfl) (ty := .int) (by decide +kernel) rfl rfl (Nat.le_of_ble_eq_true rfl) (fun b => by
    by_cases hb : b = q
    · subst hb; rw [va_up_self, g_at7 hK]; simp [g_f7, g_up, va_rf]
    · rw [va_up_ne _ _ hb]; exact (g_cell_congr rfl rfl (fun f => g_up_ne2 _ _ hb) rfl (fun f => rfl) rfl).symm) hd (kk _ rfl)
theorem g_get_Script_next {idx q : Nat} (hd : decode cc pc = .ok (.getfield idx, 3)) (hw : Cond.fieldLink y.cls idx "TileFactory$Script" "next" "I" ∈ lw_good) (hK : K q = 8) (kk : gJ Y X y cc nL ret rm po px k n (pc + 3) L (vi (I 142 q) :: st) K N I A R Q) : gJ Y X y cc nL ret rm po px k n pc L (.ref q :: st) K N I A R Q := g_getG lg_in7 rfl (by rw [hK]; decide) (g_at7 hK) 2 (by decide) hw rfl rfl hd kk
theorem g_put_Script_next {idx q : Nat} {z : Int} (hd : decode cc pc = .ok (.putfield idx, 3)) (hw : Cond.fieldLink y.cls idx "TileFactory$Script" "next" "I" ∈ lw_good) (hK : K q = 8) (kk : ∀ (I' : Nat → Nat → Int), I' = g_up I 142 q z → gJ Y X y cc nL ret rm po px k n (pc + 3) L st K N I' A R Q) : gJ Y X y cc nL ret rm po px k n pc L (vi z :: .ref q :: st) K N I A R Q :=
  g_putG lg_in7 tyX9 tyX9_ok nmX9 rfl (by rw [hK]; decide) (g_at7 hK) 2 (by decide) hw rfl (Or.inl rfl) (ty := .int) (by decide +kernel) rfl rfl (Nat.le_of_ble_eq_true rfl) (fun b => by
    by_cases hb : b = q
    · subst hb; rw [va_up_self, g_at7 hK]; simp [g_f7, g_up, va_rf]
    · rw [va_up_ne _ _ hb]; exact (g_cell_congr rfl rfl (fun f => g_up_ne2 _ _ hb) rfl (fun f => rfl) rfl).symm) hd (kk _ rfl)
theorem g_get_Script_words {idx q : Nat} (hd : decode cc pc = .ok (.getfield idx, 3)) (hw : Cond.fieldLink y.cls idx "TileFactory$Script" "words" "I" ∈ lw_good) (hK : K q = 8) (kk : gJ Y X y cc nL ret rm po px k n (pc + 3) L (vi (I 143 q) :: st) K N I A R Q) : gJ Y X y cc nL ret rm po px k n pc L (.ref q :: st) K N I A R Q := g_getG lg_in7 rfl (by rw [hK]; decide) (g_at7 hK) 3 (by decide) hw rfl rfl hd kk
theorem g_put_Script_words {idx q : Nat} {z : Int} (hd : decode cc pc = .ok (.putfield idx, 3)) (hw : Cond.fieldLink y.cls idx "TileFactory$Script" "words" "I" ∈ lw_good) (hK : K q = 8) (kk : ∀ (I' : Nat → Nat → Int), I' = g_up I 143 q z → gJ Y X y cc nL ret rm po px k n (pc + 3) L st K N I' A R Q) : gJ Y X y cc nL ret rm po px k n pc L (vi z :: .ref q :: st) K N I A R Q :=
  g_putG lg_in7 tyX9 tyX9_ok nmX9 rfl (by rw [hK]; decide) (g_at7 hK) 3 (by decide) hw rfl (Or.inl rfl) (ty := .int) (by decide +kernel) rfl rfl (Nat.le_of_ble_eq_true rfl) (fun b => by
    by_cases hb : b = q
    · subst hb; rw [va_up_self, g_at7 hK]; simp [g_f7, g_up, va_rf]
    · rw [va_up_ne _ _ hb]; exact (g_cell_congr rfl rfl (fun f => g_up_ne2 _ _ hb) rfl (fun f => rfl) rfl).symm) hd (kk _ rfl)
theorem g_get_Script_hasOnlyNumbers {idx q : Nat} (hd : decode cc pc = .ok (.getfield idx, 3)) (hw : Cond.fieldLink y.cls idx "TileFactory$Script" "hasOnlyNumbers" "Z" ∈ lw_good) (hK : K q = 8) (kk : gJ Y X y cc nL ret rm po px k n (pc + 3) L (vi (I 144 q) :: st) K N I A R Q) : gJ Y X y cc nL ret rm po px k n pc L (.ref q :: st) K N I A R Q := g_getG lg_in7 rfl (by rw [hK]; decide) (g_at7 hK) 4 (by decide) hw rfl rfl hd kk
theorem g_put_Script_hasOnlyNumbers {idx q : Nat} {z : Int} (hz : z = 0 ∨ z = 1) (hd : decode cc pc = .ok (.putfield idx, 3)) (hw : Cond.fieldLink y.cls idx "TileFactory$Script" "hasOnlyNumbers" "Z" ∈ lw_good) (hK : K q = 8) (kk : ∀ (I' : Nat → Nat → Int), I' = g_up I 144 q z → gJ Y X y cc nL ret rm po px k n (pc + 3) L st K N I' A R Q) : gJ Y X y cc nL ret rm po px k n pc L (vi z :: .ref q :: st) K N I A R Q :=
  g_putG lg_in7 tyX9 tyX9_ok nmX9 rfl (by rw [hK]; decide) (g_at7 hK) 4 (by decide) hw rfl (Or.inl rfl) (ty := .boolean) (by decide +kernel) (by rcases hz with rfl | rfl <;> decide) (by rcases hz with rfl | rfl <;> decide) (Nat.le_of_ble_eq_true rfl) (fun b => by
    by_cases hb : b = q
    · subst hb; rw [va_up_self, g_at7 hK]; simp [g_f7, g_up, va_rf]
    · rw [va_up_ne _ _ hb]; exact (g_cell_congr rfl rfl (fun f => g_up_ne2 _ _ hb) rfl (fun f => rfl) rfl).symm) hd (kk _ rfl)
theorem g_get_Script_arguments {b : Nat} {idx q : Nat} (hd : decode cc pc = .ok (.getfield idx, 3)) (hw : Cond.fieldLink y.cls idx "TileFactory$Script" "arguments" "[I" ∈ lw_good) (hK : K q = 8) (hb : R 145 q = some b) (kk : gJ Y X y cc nL ret rm po px k n (pc + 3) L (.ref b :: st) K N I A R Q) : gJ Y X y cc nL ret rm po px k n pc L (.ref q :: st) K N I A R Q := g_getG lg_in7 rfl (by rw [hK]; decide) (g_at7 hK) 5 (by decide) hw rfl (by simp [g_f7, hb, va_rf]) hd kk
theorem g_put_Script_arguments {idx q : Nat} {z : Nat} (hd : decode cc pc = .ok (.putfield idx, 3)) (hw : Cond.fieldLink y.cls idx "TileFactory$Script" "arguments" "[I" ∈ lw_good) (hK : K q = 8) (hi : y.name = "<init>") (hdl : "TileFactory$Script" = y.cls) (kk : ∀ (R' : Nat → Nat → Option Nat), R' = g_up R 145 q (some z) → gJ Y X y cc nL ret rm po px k n (pc + 3) L st K N I A R' Q) : gJ Y X y cc nL ret rm po px k n pc L (.ref z :: .ref q :: st) K N I A R Q :=
  g_putG lg_in7 tyX9 tyX9_ok nmX9 rfl (by rw [hK]; decide) (g_at7 hK) 5 (by decide) hw rfl (Or.inr ⟨rfl, hi, hdl⟩) (ty := .array .int) (by decide +kernel) rfl rfl (Nat.le_of_ble_eq_true rfl) (fun b => by
    by_cases hb : b = q
    · subst hb; rw [va_up_self, g_at7 hK]; simp [g_f7, g_up, va_rf]
    · rw [va_up_ne _ _ hb]; exact (g_cell_congr rfl rfl (fun f => rfl) rfl (fun f => g_up_ne2 _ _ hb) rfl).symm) hd (kk _ rfl)
theorem g_get_Script_verb {b : Nat} {idx q : Nat} (hd : decode cc pc = .ok (.getfield idx, 3)) (hw : Cond.fieldLink y.cls idx "TileFactory$Script" "verb" "LTileFactory$Verb;" ∈ lw_good) (hK : K q = 8) (hb : R 146 q = some b) (kk : gJ Y X y cc nL ret rm po px k n (pc + 3) L (.ref b :: st) K N I A R Q) : gJ Y X y cc nL ret rm po px k n pc L (.ref q :: st) K N I A R Q := g_getG lg_in7 rfl (by rw [hK]; decide) (g_at7 hK) 6 (by decide) hw rfl (by simp [g_f7, hb, va_rf]) hd kk
theorem g_put_Script_verb {idx q : Nat} {z : Nat} (hd : decode cc pc = .ok (.putfield idx, 3)) (hw : Cond.fieldLink y.cls idx "TileFactory$Script" "verb" "LTileFactory$Verb;" ∈ lw_good) (hK : K q = 8) (kk : ∀ (R' : Nat → Nat → Option Nat), R' = g_up R 146 q (some z) → gJ Y X y cc nL ret rm po px k n (pc + 3) L st K N I A R' Q) : gJ Y X y cc nL ret rm po px k n pc L (.ref z :: .ref q :: st) K N I A R Q :=
  g_putG lg_in7 tyX9 tyX9_ok nmX9 rfl (by rw [hK]; decide) (g_at7 hK) 6 (by decide) hw rfl (Or.inl rfl) (ty := .object "TileFactory$Verb") (by decide +kernel) rfl rfl (Nat.le_of_ble_eq_true rfl) (fun b => by
    by_cases hb : b = q
    · subst hb; rw [va_up_self, g_at7 hK]; simp [g_f7, g_up, va_rf]
    · rw [va_up_ne _ _ hb]; exact (g_cell_congr rfl rfl (fun f => rfl) rfl (fun f => g_up_ne2 _ _ hb) rfl).symm) hd (kk _ rfl)
theorem g_get_State_glazes {b : Nat} {idx q : Nat} (hd : decode cc pc = .ok (.getfield idx, 3)) (hw : Cond.fieldLink y.cls idx "TileFactory$State" "glazes" "[LTileFactory$Glaze;" ∈ lw_good) (hK : K q = 9) (hb : R 160 q = some b) (kk : gJ Y X y cc nL ret rm po px k n (pc + 3) L (.ref b :: st) K N I A R Q) : gJ Y X y cc nL ret rm po px k n pc L (.ref q :: st) K N I A R Q := g_getG lg_in8 rfl (by rw [hK]; decide) (g_at8 hK) 0 (by decide) hw rfl (by simp [g_f8, hb, va_rf]) hd kk
theorem g_put_State_glazes {idx q : Nat} {z : Nat} (hd : decode cc pc = .ok (.putfield idx, 3)) (hw : Cond.fieldLink y.cls idx "TileFactory$State" "glazes" "[LTileFactory$Glaze;" ∈ lw_good) (hK : K q = 9) (hi : y.name = "<init>") (hdl : "TileFactory$State" = y.cls) (kk : ∀ (R' : Nat → Nat → Option Nat), R' = g_up R 160 q (some z) → gJ Y X y cc nL ret rm po px k n (pc + 3) L st K N I A R' Q) : gJ Y X y cc nL ret rm po px k n pc L (.ref z :: .ref q :: st) K N I A R Q :=
  g_putG lg_in8 tyX10 tyX10_ok nmX10 rfl (by rw [hK]; decide) (g_at8 hK) 0 (by decide) hw rfl (Or.inr ⟨rfl, hi, hdl⟩) (ty := .array (.object "TileFactory$Glaze")) (by decide +kernel) rfl rfl (Nat.le_of_ble_eq_true rfl) (fun b => by
    by_cases hb : b = q
    · subst hb; rw [va_up_self, g_at8 hK]; simp [g_f8, g_up, va_rf]
    · rw [va_up_ne _ _ hb]; exact (g_cell_congr rfl rfl (fun f => rfl) rfl (fun f => g_up_ne2 _ _ hb) rfl).symm) hd (kk _ rfl)
theorem g_get_State_positions {b : Nat} {idx q : Nat} (hd : decode cc pc = .ok (.getfield idx, 3)) (hw : Cond.fieldLink y.cls idx "TileFactory$State" "positions" "[LTileFactory$Position;" ∈ lw_good) (hK : K q = 9) (hb : R 161 q = some b) (kk : gJ Y X y cc nL ret rm po px k n (pc + 3) L (.ref b :: st) K N I A R Q) : gJ Y X y cc nL ret rm po px k n pc L (.ref q :: st) K N I A R Q := g_getG lg_in8 rfl (by rw [hK]; decide) (g_at8 hK) 1 (by decide) hw rfl (by simp [g_f8, hb, va_rf]) hd kk
theorem g_put_State_positions {idx q : Nat} {z : Nat} (hd : decode cc pc = .ok (.putfield idx, 3)) (hw : Cond.fieldLink y.cls idx "TileFactory$State" "positions" "[LTileFactory$Position;" ∈ lw_good) (hK : K q = 9) (hi : y.name = "<init>") (hdl : "TileFactory$State" = y.cls) (kk : ∀ (R' : Nat → Nat → Option Nat), R' = g_up R 161 q (some z) → gJ Y X y cc nL ret rm po px k n (pc + 3) L st K N I A R' Q) : gJ Y X y cc nL ret rm po px k n pc L (.ref z :: .ref q :: st) K N I A R Q :=
  g_putG lg_in8 tyX10 tyX10_ok nmX10 rfl (by rw [hK]; decide) (g_at8 hK) 1 (by decide) hw rfl (Or.inr ⟨rfl, hi, hdl⟩) (ty := .array (.object "TileFactory$Position")) (by decide +kernel) rfl rfl (Nat.le_of_ble_eq_true rfl) (fun b => by
    by_cases hb : b = q
    · subst hb; rw [va_up_self, g_at8 hK]; simp [g_f8, g_up, va_rf]
    · rw [va_up_ne _ _ hb]; exact (g_cell_congr rfl rfl (fun f => rfl) rfl (fun f => g_up_ne2 _ _ hb) rfl).symm) hd (kk _ rfl)
theorem g_get_State_piles {b : Nat} {idx q : Nat} (hd : decode cc pc = .ok (.getfield idx, 3)) (hw : Cond.fieldLink y.cls idx "TileFactory$State" "piles" "[LTileFactory$Pile;" ∈ lw_good) (hK : K q = 9) (hb : R 162 q = some b) (kk : gJ Y X y cc nL ret rm po px k n (pc + 3) L (.ref b :: st) K N I A R Q) : gJ Y X y cc nL ret rm po px k n pc L (.ref q :: st) K N I A R Q := g_getG lg_in8 rfl (by rw [hK]; decide) (g_at8 hK) 2 (by decide) hw rfl (by simp [g_f8, hb, va_rf]) hd kk
theorem g_put_State_piles {idx q : Nat} {z : Nat} (hd : decode cc pc = .ok (.putfield idx, 3)) (hw : Cond.fieldLink y.cls idx "TileFactory$State" "piles" "[LTileFactory$Pile;" ∈ lw_good) (hK : K q = 9) (hi : y.name = "<init>") (hdl : "TileFactory$State" = y.cls) (kk : ∀ (R' : Nat → Nat → Option Nat), R' = g_up R 162 q (some z) → gJ Y X y cc nL ret rm po px k n (pc + 3) L st K N I A R' Q) : gJ Y X y cc nL ret rm po px k n pc L (.ref z :: .ref q :: st) K N I A R Q :=
  g_putG lg_in8 tyX10 tyX10_ok nmX10 rfl (by rw [hK]; decide) (g_at8 hK) 2 (by decide) hw rfl (Or.inr ⟨rfl, hi, hdl⟩) (ty := .array (.object "TileFactory$Pile")) (by decide +kernel) rfl rfl (Nat.le_of_ble_eq_true rfl) (fun b => by
    by_cases hb : b = q
    · subst hb; rw [va_up_self, g_at8 hK]; simp [g_f8, g_up, va_rf]
    · rw [va_up_ne _ _ hb]; exact (g_cell_congr rfl rfl (fun f => rfl) rfl (fun f => g_up_ne2 _ _ hb) rfl).symm) hd (kk _ rfl)
theorem g_get_State_lots {b : Nat} {idx q : Nat} (hd : decode cc pc = .ok (.getfield idx, 3)) (hw : Cond.fieldLink y.cls idx "TileFactory$State" "lots" "[LTileFactory$Lot;" ∈ lw_good) (hK : K q = 9) (hb : R 163 q = some b) (kk : gJ Y X y cc nL ret rm po px k n (pc + 3) L (.ref b :: st) K N I A R Q) : gJ Y X y cc nL ret rm po px k n pc L (.ref q :: st) K N I A R Q := g_getG lg_in8 rfl (by rw [hK]; decide) (g_at8 hK) 3 (by decide) hw rfl (by simp [g_f8, hb, va_rf]) hd kk
theorem g_put_State_lots {idx q : Nat} {z : Nat} (hd : decode cc pc = .ok (.putfield idx, 3)) (hw : Cond.fieldLink y.cls idx "TileFactory$State" "lots" "[LTileFactory$Lot;" ∈ lw_good) (hK : K q = 9) (hi : y.name = "<init>") (hdl : "TileFactory$State" = y.cls) (kk : ∀ (R' : Nat → Nat → Option Nat), R' = g_up R 163 q (some z) → gJ Y X y cc nL ret rm po px k n (pc + 3) L st K N I A R' Q) : gJ Y X y cc nL ret rm po px k n pc L (.ref z :: .ref q :: st) K N I A R Q :=
  g_putG lg_in8 tyX10 tyX10_ok nmX10 rfl (by rw [hK]; decide) (g_at8 hK) 3 (by decide) hw rfl (Or.inr ⟨rfl, hi, hdl⟩) (ty := .array (.object "TileFactory$Lot")) (by decide +kernel) rfl rfl (Nat.le_of_ble_eq_true rfl) (fun b => by
    by_cases hb : b = q
    · subst hb; rw [va_up_self, g_at8 hK]; simp [g_f8, g_up, va_rf]
    · rw [va_up_ne _ _ hb]; exact (g_cell_congr rfl rfl (fun f => rfl) rfl (fun f => g_up_ne2 _ _ hb) rfl).symm) hd (kk _ rfl)
theorem g_get_State_deliveries {b : Nat} {idx q : Nat} (hd : decode cc pc = .ok (.getfield idx, 3)) (hw : Cond.fieldLink y.cls idx "TileFactory$State" "deliveries" "[LTileFactory$Delivery;" ∈ lw_good) (hK : K q = 9) (hb : R 164 q = some b) (kk : gJ Y X y cc nL ret rm po px k n (pc + 3) L (.ref b :: st) K N I A R Q) : gJ Y X y cc nL ret rm po px k n pc L (.ref q :: st) K N I A R Q := g_getG lg_in8 rfl (by rw [hK]; decide) (g_at8 hK) 4 (by decide) hw rfl (by simp [g_f8, hb, va_rf]) hd kk
theorem g_put_State_deliveries {idx q : Nat} {z : Nat} (hd : decode cc pc = .ok (.putfield idx, 3)) (hw : Cond.fieldLink y.cls idx "TileFactory$State" "deliveries" "[LTileFactory$Delivery;" ∈ lw_good) (hK : K q = 9) (hi : y.name = "<init>") (hdl : "TileFactory$State" = y.cls) (kk : ∀ (R' : Nat → Nat → Option Nat), R' = g_up R 164 q (some z) → gJ Y X y cc nL ret rm po px k n (pc + 3) L st K N I A R' Q) : gJ Y X y cc nL ret rm po px k n pc L (.ref z :: .ref q :: st) K N I A R Q :=
  g_putG lg_in8 tyX10 tyX10_ok nmX10 rfl (by rw [hK]; decide) (g_at8 hK) 4 (by decide) hw rfl (Or.inr ⟨rfl, hi, hdl⟩) (ty := .array (.object "TileFactory$Delivery")) (by decide +kernel) rfl rfl (Nat.le_of_ble_eq_true rfl) (fun b => by
    by_cases hb : b = q
    · subst hb; rw [va_up_self, g_at8 hK]; simp [g_f8, g_up, va_rf]
    · rw [va_up_ne _ _ hb]; exact (g_cell_congr rfl rfl (fun f => rfl) rfl (fun f => g_up_ne2 _ _ hb) rfl).symm) hd (kk _ rfl)
theorem g_get_State_events {b : Nat} {idx q : Nat} (hd : decode cc pc = .ok (.getfield idx, 3)) (hw : Cond.fieldLink y.cls idx "TileFactory$State" "events" "LTileFactory$EventLog;" ∈ lw_good) (hK : K q = 9) (hb : R 165 q = some b) (kk : gJ Y X y cc nL ret rm po px k n (pc + 3) L (.ref b :: st) K N I A R Q) : gJ Y X y cc nL ret rm po px k n pc L (.ref q :: st) K N I A R Q := g_getG lg_in8 rfl (by rw [hK]; decide) (g_at8 hK) 5 (by decide) hw rfl (by simp [g_f8, hb, va_rf]) hd kk
theorem g_put_State_events {idx q : Nat} {z : Nat} (hd : decode cc pc = .ok (.putfield idx, 3)) (hw : Cond.fieldLink y.cls idx "TileFactory$State" "events" "LTileFactory$EventLog;" ∈ lw_good) (hK : K q = 9) (hi : y.name = "<init>") (hdl : "TileFactory$State" = y.cls) (kk : ∀ (R' : Nat → Nat → Option Nat), R' = g_up R 165 q (some z) → gJ Y X y cc nL ret rm po px k n (pc + 3) L st K N I A R' Q) : gJ Y X y cc nL ret rm po px k n pc L (.ref z :: .ref q :: st) K N I A R Q :=
  g_putG lg_in8 tyX10 tyX10_ok nmX10 rfl (by rw [hK]; decide) (g_at8 hK) 5 (by decide) hw rfl (Or.inr ⟨rfl, hi, hdl⟩) (ty := .object "TileFactory$EventLog") (by decide +kernel) rfl rfl (Nat.le_of_ble_eq_true rfl) (fun b => by
    by_cases hb : b = q
    · subst hb; rw [va_up_self, g_at8 hK]; simp [g_f8, g_up, va_rf]
    · rw [va_up_ne _ _ hb]; exact (g_cell_congr rfl rfl (fun f => rfl) rfl (fun f => g_up_ne2 _ _ hb) rfl).symm) hd (kk _ rfl)
theorem g_get_State_sharpness {idx q : Nat} (hd : decode cc pc = .ok (.getfield idx, 3)) (hw : Cond.fieldLink y.cls idx "TileFactory$State" "sharpness" "I" ∈ lw_good) (hK : K q = 9) (kk : gJ Y X y cc nL ret rm po px k n (pc + 3) L (vi (I 166 q) :: st) K N I A R Q) : gJ Y X y cc nL ret rm po px k n pc L (.ref q :: st) K N I A R Q := g_getG lg_in8 rfl (by rw [hK]; decide) (g_at8 hK) 6 (by decide) hw rfl rfl hd kk
theorem g_put_State_sharpness {idx q : Nat} {z : Int} (hd : decode cc pc = .ok (.putfield idx, 3)) (hw : Cond.fieldLink y.cls idx "TileFactory$State" "sharpness" "I" ∈ lw_good) (hK : K q = 9) (kk : ∀ (I' : Nat → Nat → Int), I' = g_up I 166 q z → gJ Y X y cc nL ret rm po px k n (pc + 3) L st K N I' A R Q) : gJ Y X y cc nL ret rm po px k n pc L (vi z :: .ref q :: st) K N I A R Q :=
  g_putG lg_in8 tyX10 tyX10_ok nmX10 rfl (by rw [hK]; decide) (g_at8 hK) 6 (by decide) hw rfl (Or.inl rfl) (ty := .int) (by decide +kernel) rfl rfl (Nat.le_of_ble_eq_true rfl) (fun b => by
    by_cases hb : b = q
    · subst hb; rw [va_up_self, g_at8 hK]; simp [g_f8, g_up, va_rf]
    · rw [va_up_ne _ _ hb]; exact (g_cell_congr rfl rfl (fun f => g_up_ne2 _ _ hb) rfl (fun f => rfl) rfl).symm) hd (kk _ rfl)
theorem g_get_State_boxSize {idx q : Nat} (hd : decode cc pc = .ok (.getfield idx, 3)) (hw : Cond.fieldLink y.cls idx "TileFactory$State" "boxSize" "I" ∈ lw_good) (hK : K q = 9) (kk : gJ Y X y cc nL ret rm po px k n (pc + 3) L (vi (I 167 q) :: st) K N I A R Q) : gJ Y X y cc nL ret rm po px k n pc L (.ref q :: st) K N I A R Q := g_getG lg_in8 rfl (by rw [hK]; decide) (g_at8 hK) 7 (by decide) hw rfl rfl hd kk
theorem g_put_State_boxSize {idx q : Nat} {z : Int} (hd : decode cc pc = .ok (.putfield idx, 3)) (hw : Cond.fieldLink y.cls idx "TileFactory$State" "boxSize" "I" ∈ lw_good) (hK : K q = 9) (kk : ∀ (I' : Nat → Nat → Int), I' = g_up I 167 q z → gJ Y X y cc nL ret rm po px k n (pc + 3) L st K N I' A R Q) : gJ Y X y cc nL ret rm po px k n pc L (vi z :: .ref q :: st) K N I A R Q :=
  g_putG lg_in8 tyX10 tyX10_ok nmX10 rfl (by rw [hK]; decide) (g_at8 hK) 7 (by decide) hw rfl (Or.inl rfl) (ty := .int) (by decide +kernel) rfl rfl (Nat.le_of_ble_eq_true rfl) (fun b => by
    by_cases hb : b = q
    · subst hb; rw [va_up_self, g_at8 hK]; simp [g_f8, g_up, va_rf]
    · rw [va_up_ne _ _ hb]; exact (g_cell_congr rfl rfl (fun f => g_up_ne2 _ _ hb) rfl (fun f => rfl) rfl).symm) hd (kk _ rfl)
theorem g_get_State_pileCount {idx q : Nat} (hd : decode cc pc = .ok (.getfield idx, 3)) (hw : Cond.fieldLink y.cls idx "TileFactory$State" "pileCount" "I" ∈ lw_good) (hK : K q = 9) (kk : gJ Y X y cc nL ret rm po px k n (pc + 3) L (vi (I 168 q) :: st) K N I A R Q) : gJ Y X y cc nL ret rm po px k n pc L (.ref q :: st) K N I A R Q := g_getG lg_in8 rfl (by rw [hK]; decide) (g_at8 hK) 8 (by decide) hw rfl rfl hd kk
theorem g_put_State_pileCount {idx q : Nat} {z : Int} (hd : decode cc pc = .ok (.putfield idx, 3)) (hw : Cond.fieldLink y.cls idx "TileFactory$State" "pileCount" "I" ∈ lw_good) (hK : K q = 9) (kk : ∀ (I' : Nat → Nat → Int), I' = g_up I 168 q z → gJ Y X y cc nL ret rm po px k n (pc + 3) L st K N I' A R Q) : gJ Y X y cc nL ret rm po px k n pc L (vi z :: .ref q :: st) K N I A R Q :=
  g_putG lg_in8 tyX10 tyX10_ok nmX10 rfl (by rw [hK]; decide) (g_at8 hK) 8 (by decide) hw rfl (Or.inl rfl) (ty := .int) (by decide +kernel) rfl rfl (Nat.le_of_ble_eq_true rfl) (fun b => by
    by_cases hb : b = q
    · subst hb; rw [va_up_self, g_at8 hK]; simp [g_f8, g_up, va_rf]
    · rw [va_up_ne _ _ hb]; exact (g_cell_congr rfl rfl (fun f => g_up_ne2 _ _ hb) rfl (fun f => rfl) rfl).symm) hd (kk _ rfl)
theorem g_get_State_lotCount {idx q : Nat} (hd : decode cc pc = .ok (.getfield idx, 3)) (hw : Cond.fieldLink y.cls idx "TileFactory$State" "lotCount" "I" ∈ lw_good) (hK : K q = 9) (kk : gJ Y X y cc nL ret rm po px k n (pc + 3) L (vi (I 169 q) :: st) K N I A R Q) : gJ Y X y cc nL ret rm po px k n pc L (.ref q :: st) K N I A R Q := g_getG lg_in8 rfl (by rw [hK]; decide) (g_at8 hK) 9 (by decide) hw rfl rfl hd kk
theorem g_put_State_lotCount {idx q : Nat} {z : Int} (hd : decode cc pc = .ok (.putfield idx, 3)) (hw : Cond.fieldLink y.cls idx "TileFactory$State" "lotCount" "I" ∈ lw_good) (hK : K q = 9) (kk : ∀ (I' : Nat → Nat → Int), I' = g_up I 169 q z → gJ Y X y cc nL ret rm po px k n (pc + 3) L st K N I' A R Q) : gJ Y X y cc nL ret rm po px k n pc L (vi z :: .ref q :: st) K N I A R Q :=
  g_putG lg_in8 tyX10 tyX10_ok nmX10 rfl (by rw [hK]; decide) (g_at8 hK) 9 (by decide) hw rfl (Or.inl rfl) (ty := .int) (by decide +kernel) rfl rfl (Nat.le_of_ble_eq_true rfl) (fun b => by
    by_cases hb : b = q
    · subst hb; rw [va_up_self, g_at8 hK]; simp [g_f8, g_up, va_rf]
    · rw [va_up_ne _ _ hb]; exact (g_cell_congr rfl rfl (fun f => g_up_ne2 _ _ hb) rfl (fun f => rfl) rfl).symm) hd (kk _ rfl)
theorem g_get_State_deliveryCount {idx q : Nat} (hd : decode cc pc = .ok (.getfield idx, 3)) (hw : Cond.fieldLink y.cls idx "TileFactory$State" "deliveryCount" "I" ∈ lw_good) (hK : K q = 9) (kk : gJ Y X y cc nL ret rm po px k n (pc + 3) L (vi (I 170 q) :: st) K N I A R Q) : gJ Y X y cc nL ret rm po px k n pc L (.ref q :: st) K N I A R Q := g_getG lg_in8 rfl (by rw [hK]; decide) (g_at8 hK) 10 (by decide) hw rfl rfl hd kk
theorem g_put_State_deliveryCount {idx q : Nat} {z : Int} (hd : decode cc pc = .ok (.putfield idx, 3)) (hw : Cond.fieldLink y.cls idx "TileFactory$State" "deliveryCount" "I" ∈ lw_good) (hK : K q = 9) (kk : ∀ (I' : Nat → Nat → Int), I' = g_up I 170 q z → gJ Y X y cc nL ret rm po px k n (pc + 3) L st K N I' A R Q) : gJ Y X y cc nL ret rm po px k n pc L (vi z :: .ref q :: st) K N I A R Q :=
  g_putG lg_in8 tyX10 tyX10_ok nmX10 rfl (by rw [hK]; decide) (g_at8 hK) 10 (by decide) hw rfl (Or.inl rfl) (ty := .int) (by decide +kernel) rfl rfl (Nat.le_of_ble_eq_true rfl) (fun b => by
    by_cases hb : b = q
    · subst hb; rw [va_up_self, g_at8 hK]; simp [g_f8, g_up, va_rf]
    · rw [va_up_ne _ _ hb]; exact (g_cell_congr rfl rfl (fun f => g_up_ne2 _ _ hb) rfl (fun f => rfl) rfl).symm) hd (kk _ rfl)
theorem g_get_State_firings {idx q : Nat} (hd : decode cc pc = .ok (.getfield idx, 3)) (hw : Cond.fieldLink y.cls idx "TileFactory$State" "firings" "I" ∈ lw_good) (hK : K q = 9) (kk : gJ Y X y cc nL ret rm po px k n (pc + 3) L (vi (I 171 q) :: st) K N I A R Q) : gJ Y X y cc nL ret rm po px k n pc L (.ref q :: st) K N I A R Q := g_getG lg_in8 rfl (by rw [hK]; decide) (g_at8 hK) 11 (by decide) hw rfl rfl hd kk
theorem g_put_State_firings {idx q : Nat} {z : Int} (hd : decode cc pc = .ok (.putfield idx, 3)) (hw : Cond.fieldLink y.cls idx "TileFactory$State" "firings" "I" ∈ lw_good) (hK : K q = 9) (kk : ∀ (I' : Nat → Nat → Int), I' = g_up I 171 q z → gJ Y X y cc nL ret rm po px k n (pc + 3) L st K N I' A R Q) : gJ Y X y cc nL ret rm po px k n pc L (vi z :: .ref q :: st) K N I A R Q :=
  g_putG lg_in8 tyX10 tyX10_ok nmX10 rfl (by rw [hK]; decide) (g_at8 hK) 11 (by decide) hw rfl (Or.inl rfl) (ty := .int) (by decide +kernel) rfl rfl (Nat.le_of_ble_eq_true rfl) (fun b => by
    by_cases hb : b = q
    · subst hb; rw [va_up_self, g_at8 hK]; simp [g_f8, g_up, va_rf]
    · rw [va_up_ne _ _ hb]; exact (g_cell_congr rfl rfl (fun f => g_up_ne2 _ _ hb) rfl (fun f => rfl) rfl).symm) hd (kk _ rfl)
theorem g_get_State_fired {idx q : Nat} (hd : decode cc pc = .ok (.getfield idx, 3)) (hw : Cond.fieldLink y.cls idx "TileFactory$State" "fired" "I" ∈ lw_good) (hK : K q = 9) (kk : gJ Y X y cc nL ret rm po px k n (pc + 3) L (vi (I 172 q) :: st) K N I A R Q) : gJ Y X y cc nL ret rm po px k n pc L (.ref q :: st) K N I A R Q := g_getG lg_in8 rfl (by rw [hK]; decide) (g_at8 hK) 12 (by decide) hw rfl rfl hd kk
theorem g_put_State_fired {idx q : Nat} {z : Int} (hd : decode cc pc = .ok (.putfield idx, 3)) (hw : Cond.fieldLink y.cls idx "TileFactory$State" "fired" "I" ∈ lw_good) (hK : K q = 9) (kk : ∀ (I' : Nat → Nat → Int), I' = g_up I 172 q z → gJ Y X y cc nL ret rm po px k n (pc + 3) L st K N I' A R Q) : gJ Y X y cc nL ret rm po px k n pc L (vi z :: .ref q :: st) K N I A R Q :=
  g_putG lg_in8 tyX10 tyX10_ok nmX10 rfl (by rw [hK]; decide) (g_at8 hK) 12 (by decide) hw rfl (Or.inl rfl) (ty := .int) (by decide +kernel) rfl rfl (Nat.le_of_ble_eq_true rfl) (fun b => by
    by_cases hb : b = q
    · subst hb; rw [va_up_self, g_at8 hK]; simp [g_f8, g_up, va_rf]
    · rw [va_up_ne _ _ hb]; exact (g_cell_congr rfl rfl (fun f => g_up_ne2 _ _ hb) rfl (fun f => rfl) rfl).symm) hd (kk _ rfl)
theorem g_get_State_broken {idx q : Nat} (hd : decode cc pc = .ok (.getfield idx, 3)) (hw : Cond.fieldLink y.cls idx "TileFactory$State" "broken" "I" ∈ lw_good) (hK : K q = 9) (kk : gJ Y X y cc nL ret rm po px k n (pc + 3) L (vi (I 173 q) :: st) K N I A R Q) : gJ Y X y cc nL ret rm po px k n pc L (.ref q :: st) K N I A R Q := g_getG lg_in8 rfl (by rw [hK]; decide) (g_at8 hK) 13 (by decide) hw rfl rfl hd kk
theorem g_put_State_broken {idx q : Nat} {z : Int} (hd : decode cc pc = .ok (.putfield idx, 3)) (hw : Cond.fieldLink y.cls idx "TileFactory$State" "broken" "I" ∈ lw_good) (hK : K q = 9) (kk : ∀ (I' : Nat → Nat → Int), I' = g_up I 173 q z → gJ Y X y cc nL ret rm po px k n (pc + 3) L st K N I' A R Q) : gJ Y X y cc nL ret rm po px k n pc L (vi z :: .ref q :: st) K N I A R Q :=
  g_putG lg_in8 tyX10 tyX10_ok nmX10 rfl (by rw [hK]; decide) (g_at8 hK) 13 (by decide) hw rfl (Or.inl rfl) (ty := .int) (by decide +kernel) rfl rfl (Nat.le_of_ble_eq_true rfl) (fun b => by
    by_cases hb : b = q
    · subst hb; rw [va_up_self, g_at8 hK]; simp [g_f8, g_up, va_rf]
    · rw [va_up_ne _ _ hb]; exact (g_cell_congr rfl rfl (fun f => g_up_ne2 _ _ hb) rfl (fun f => rfl) rfl).symm) hd (kk _ rfl)
theorem g_get_TileFactory_state {b : Nat} {idx q : Nat} (hd : decode cc pc = .ok (.getfield idx, 3)) (hw : Cond.fieldLink y.cls idx "TileFactory" "state" "LTileFactory$State;" ∈ lw_good) (hK : K q = 10) (hb : R 180 q = some b) (kk : gJ Y X y cc nL ret rm po px k n (pc + 3) L (.ref b :: st) K N I A R Q) : gJ Y X y cc nL ret rm po px k n pc L (.ref q :: st) K N I A R Q := g_getG lg_in9 rfl (by rw [hK]; decide) (g_at9 hK) 0 (by decide) hw rfl (by simp [g_f9, hb, va_rf]) hd kk
theorem g_put_TileFactory_state {idx q : Nat} {z : Nat} (hd : decode cc pc = .ok (.putfield idx, 3)) (hw : Cond.fieldLink y.cls idx "TileFactory" "state" "LTileFactory$State;" ∈ lw_good) (hK : K q = 10) (hi : y.name = "<init>") (hdl : "TileFactory" = y.cls) (kk : ∀ (R' : Nat → Nat → Option Nat), R' = g_up R 180 q (some z) → gJ Y X y cc nL ret rm po px k n (pc + 3) L st K N I A R' Q) : gJ Y X y cc nL ret rm po px k n pc L (.ref z :: .ref q :: st) K N I A R Q :=
  g_putG lg_in9 tyX12 tyX12_ok nmX12 rfl (by rw [hK]; decide) (g_at9 hK) 0 (by decide) hw rfl (Or.inr ⟨rfl, hi, hdl⟩) (ty := .object "TileFactory$State") (by decide +kernel) rfl rfl (Nat.le_of_ble_eq_true rfl) (fun b => by
    by_cases hb : b = q
    · subst hb; rw [va_up_self, g_at9 hK]; simp [g_f9, g_up, va_rf]
    · rw [va_up_ne _ _ hb]; exact (g_cell_congr rfl rfl (fun f => rfl) rfl (fun f => g_up_ne2 _ _ hb) rfl).symm) hd (kk _ rfl)
theorem g_get_TileFactory_history {b : Nat} {idx q : Nat} (hd : decode cc pc = .ok (.getfield idx, 3)) (hw : Cond.fieldLink y.cls idx "TileFactory" "history" "LTileFactory$History;" ∈ lw_good) (hK : K q = 10) (hb : R 181 q = some b) (kk : gJ Y X y cc nL ret rm po px k n (pc + 3) L (.ref b :: st) K N I A R Q) : gJ Y X y cc nL ret rm po px k n pc L (.ref q :: st) K N I A R Q := g_getG lg_in9 rfl (by rw [hK]; decide) (g_at9 hK) 1 (by decide) hw rfl (by simp [g_f9, hb, va_rf]) hd kk
theorem g_put_TileFactory_history {idx q : Nat} {z : Nat} (hd : decode cc pc = .ok (.putfield idx, 3)) (hw : Cond.fieldLink y.cls idx "TileFactory" "history" "LTileFactory$History;" ∈ lw_good) (hK : K q = 10) (hi : y.name = "<init>") (hdl : "TileFactory" = y.cls) (kk : ∀ (R' : Nat → Nat → Option Nat), R' = g_up R 181 q (some z) → gJ Y X y cc nL ret rm po px k n (pc + 3) L st K N I A R' Q) : gJ Y X y cc nL ret rm po px k n pc L (.ref z :: .ref q :: st) K N I A R Q :=
  g_putG lg_in9 tyX12 tyX12_ok nmX12 rfl (by rw [hK]; decide) (g_at9 hK) 1 (by decide) hw rfl (Or.inr ⟨rfl, hi, hdl⟩) (ty := .object "TileFactory$History") (by decide +kernel) rfl rfl (Nat.le_of_ble_eq_true rfl) (fun b => by
    by_cases hb : b = q
    · subst hb; rw [va_up_self, g_at9 hK]; simp [g_f9, g_up, va_rf]
    · rw [va_up_ne _ _ hb]; exact (g_cell_congr rfl rfl (fun f => rfl) rfl (fun f => g_up_ne2 _ _ hb) rfl).symm) hd (kk _ rfl)
theorem g_get_TileFactory_script {b : Nat} {idx q : Nat} (hd : decode cc pc = .ok (.getfield idx, 3)) (hw : Cond.fieldLink y.cls idx "TileFactory" "script" "LTileFactory$Script;" ∈ lw_good) (hK : K q = 10) (hb : R 182 q = some b) (kk : gJ Y X y cc nL ret rm po px k n (pc + 3) L (.ref b :: st) K N I A R Q) : gJ Y X y cc nL ret rm po px k n pc L (.ref q :: st) K N I A R Q := g_getG lg_in9 rfl (by rw [hK]; decide) (g_at9 hK) 2 (by decide) hw rfl (by simp [g_f9, hb, va_rf]) hd kk
theorem g_put_TileFactory_script {idx q : Nat} {z : Nat} (hd : decode cc pc = .ok (.putfield idx, 3)) (hw : Cond.fieldLink y.cls idx "TileFactory" "script" "LTileFactory$Script;" ∈ lw_good) (hK : K q = 10) (hi : y.name = "<init>") (hdl : "TileFactory" = y.cls) (kk : ∀ (R' : Nat → Nat → Option Nat), R' = g_up R 182 q (some z) → gJ Y X y cc nL ret rm po px k n (pc + 3) L st K N I A R' Q) : gJ Y X y cc nL ret rm po px k n pc L (.ref z :: .ref q :: st) K N I A R Q :=
  g_putG lg_in9 tyX12 tyX12_ok nmX12 rfl (by rw [hK]; decide) (g_at9 hK) 2 (by decide) hw rfl (Or.inr ⟨rfl, hi, hdl⟩) (ty := .object "TileFactory$Script") (by decide +kernel) rfl rfl (Nat.le_of_ble_eq_true rfl) (fun b => by
    by_cases hb : b = q
    · subst hb; rw [va_up_self, g_at9 hK]; simp [g_f9, g_up, va_rf]
    · rw [va_up_ne _ _ hb]; exact (g_cell_congr rfl rfl (fun f => rfl) rfl (fun f => g_up_ne2 _ _ hb) rfl).symm) hd (kk _ rfl)
theorem g_up_row {K N : Nat → Nat} {I : Nat → Nat → Int} {A : Nat → Int → Int} {R : Nat → Nat → Option Nat} {Q : Nat → Int → Option Nat} {cy : Nat → ClassId} {q : Nat} {e : va_E} {A' : Nat → Int → Int} {Q' : Nat → Int → Option Nat} (hq : g_cell cy K N I A' R Q' q = e) (hA : ∀ b, b ≠ q → A' b = A b) (hQ : ∀ b, b ≠ q → Q' b = Q b) : ∀ b, va_up (g_cell cy K N I A R Q) q e b = g_cell cy K N I A' R Q' b := fun b => by
  by_cases hb : b = q
  · subst hb; rw [va_up_self, hq]
  · rw [va_up_ne _ _ hb]; exact (g_cell_congr rfl rfl (fun _ => rfl) (hA b hb) (fun _ => rfl) (hQ b hb)).symm
theorem g_uq_rowne {α : Type} (f : Nat → Int → α) {a x : Nat} {b : Int} (v : α) (h : x ≠ a) : g_uq f a b v x = f x := by funext z; simp [g_uq, h]
theorem g_caload {q : Nat} {i : Int} (hd : decode cc pc = .ok (.caload, 1)) (hK : K q = 12) (hN : N q ≤ 2147483647) (hi : 0 ≤ i ∧ i < N q) (kk : gJ Y X y cc nL ret rm po px k n (pc + 1) L (vi (A q i) :: st) K N I A R Q) : gJ Y X y cc nL ret rm po px k n pc L (vi i :: .ref q :: st) K N I A R Q := by
  intro hx H locs ls hW hS hl
  have hW2 := hW
  obtain ⟨Ls, hL, hP, hD⟩ := hW
  obtain ⟨j0, hj0⟩ := va_pl_get (X := []) (f := (g_cell Y.2.2.1 K N I A R Q)) ((hL q).mpr (by rw [hK]; decide))
  rw [g_ar0 hK] at hj0
  refine va_cald hx.1 hx.2.1 hx.2.2.2.2.2.1 hP j0 0 hj0 rfl (i32_in hi hN) hd ?_
  rw [i32_nat (by omega), Int.toNat_of_nonneg hi.1]
  exact kk hx H locs ls hW2 hS hl
theorem g_castore {q : Nat} {i z : Int} (hd : decode cc pc = .ok (.castore, 1)) (hK : K q = 12) (hN : N q ≤ 2147483647) (hi : 0 ≤ i ∧ i < N q) (hz : 0 ≤ z ∧ z ≤ 65535) (kk : ∀ (A' : Nat → Int → Int), A' = g_uq A q i z → gJ Y X y cc nL ret rm po px k n (pc + 1) L st K N I A' R Q) : gJ Y X y cc nL ret rm po px k n pc L (vi z :: vi i :: .ref q :: st) K N I A R Q := by
  intro hx H locs ls hW hS hl
  obtain ⟨Ls, hL, hP, hD⟩ := hW
  have hK0 : K q ≠ 0 := by rw [hK]; decide
  obtain ⟨j0, hj0⟩ := va_pl_get (X := []) (f := (g_cell Y.2.2.1 K N I A R Q)) ((hL q).mpr hK0)
  have hj1 := hj0
  rw [g_ar0 hK] at hj0
  refine va_cast hx.1 hx.2.1 hx.2.2.2.2.2.1 hP hD hS j0 0 hj0 rfl (i32_in hi hN) hd (fun H1 locs1 hP1 hD1 hS1 => ?_)
  rw [i32_nat (by omega)] at hP1 hD1
  rw [i32_char hz] at hP1 hD1
  refine kk _ rfl hx H1 locs1 ls (gW_set hL hK0 hj1 hD hP1 hD1 (g_up_row ?_ (fun b hb => g_uq_rowne _ _ hb) (fun _ _ => rfl))) hS1 hl
  rw [g_ar0 hK, show (fun j : Nat => Int32.ofInt (g_uq A q i z q (j : Int))) = upd (fun j : Nat => Int32.ofInt (A q (j : Int))) i.toNat (Int32.ofInt z) from funext fun j => by
    simp only [g_uq, if_pos, upd]
    by_cases e : j = i.toNat
    · have e2 : (j : Int) = i := by omega
      rw [if_pos e2, if_pos e]
    · have e2 : ¬ (j : Int) = i := by omega
      rw [if_neg e2, if_neg e]]
theorem g_iaload {q : Nat} {i : Int} (hd : decode cc pc = .ok (.iaload, 1)) (hK : K q = 13) (hN : N q ≤ 2147483647) (hi : 0 ≤ i ∧ i < N q) (kk : gJ Y X y cc nL ret rm po px k n (pc + 1) L (vi (A q i) :: st) K N I A R Q) : gJ Y X y cc nL ret rm po px k n pc L (vi i :: .ref q :: st) K N I A R Q := by
  intro hx H locs ls hW hS hl
  have hW2 := hW
  obtain ⟨Ls, hL, hP, hD⟩ := hW
  obtain ⟨j0, hj0⟩ := va_pl_get (X := []) (f := (g_cell Y.2.2.1 K N I A R Q)) ((hL q).mpr (by rw [hK]; decide))
  rw [g_ar1 hK] at hj0
  refine va_iald hx.1 hx.2.1 hx.2.2.2.2.2.1 hP j0 1 hj0 rfl (i32_in hi hN) hd ?_
  rw [i32_nat (by omega), Int.toNat_of_nonneg hi.1]
  exact kk hx H locs ls hW2 hS hl
theorem g_iastore {q : Nat} {i z : Int} (hd : decode cc pc = .ok (.iastore, 1)) (hK : K q = 13) (hN : N q ≤ 2147483647) (hi : 0 ≤ i ∧ i < N q) (kk : ∀ (A' : Nat → Int → Int), A' = g_uq A q i z → gJ Y X y cc nL ret rm po px k n (pc + 1) L st K N I A' R Q) : gJ Y X y cc nL ret rm po px k n pc L (vi z :: vi i :: .ref q :: st) K N I A R Q := by
  intro hx H locs ls hW hS hl
  obtain ⟨Ls, hL, hP, hD⟩ := hW
  have hK0 : K q ≠ 0 := by rw [hK]; decide
  obtain ⟨j0, hj0⟩ := va_pl_get (X := []) (f := (g_cell Y.2.2.1 K N I A R Q)) ((hL q).mpr hK0)
  have hj1 := hj0
  rw [g_ar1 hK] at hj0
  refine va_iast hx.1 hx.2.1 hx.2.2.2.2.2.1 hP hD hS j0 1 hj0 rfl (i32_in hi hN) hd (fun H1 locs1 hP1 hD1 hS1 => ?_)
  rw [i32_nat (by omega)] at hP1 hD1
  refine kk _ rfl hx H1 locs1 ls (gW_set hL hK0 hj1 hD hP1 hD1 (g_up_row ?_ (fun b hb => g_uq_rowne _ _ hb) (fun _ _ => rfl))) hS1 hl
  rw [g_ar1 hK, show (fun j : Nat => Int32.ofInt (g_uq A q i z q (j : Int))) = upd (fun j : Nat => Int32.ofInt (A q (j : Int))) i.toNat (Int32.ofInt z) from funext fun j => by
    simp only [g_uq, if_pos, upd]
    by_cases e : j = i.toNat
    · have e2 : (j : Int) = i := by omega
      rw [if_pos e2, if_pos e]
    · have e2 : ¬ (j : Int) = i := by omega
      rw [if_neg e2, if_neg e]]
theorem g_aald_Delivery {q b : Nat} {i : Int} (hd : decode cc pc = .ok (.aaload, 1)) (hK : K q = 15) (hN : N q ≤ 2147483647) (hi : 0 ≤ i ∧ i < N q) (hb : Q q i = some b) (kk : gJ Y X y cc nL ret rm po px k n (pc + 1) L (.ref b :: st) K N I A R Q) : gJ Y X y cc nL ret rm po px k n pc L (vi i :: .ref q :: st) K N I A R Q := by
  intro hx H locs ls hW hS hl
  have hW2 := hW
  obtain ⟨Ls, hL, hP, hD⟩ := hW
  obtain ⟨j0, hj0⟩ := va_pl_get (X := []) (f := (g_cell Y.2.2.1 K N I A R Q)) ((hL q).mpr (by rw [hK]; decide))
  rw [g_ar3 hK] at hj0
  refine va_aldq (C := "TileFactory$Delivery") hx.1 hx.2.1 hx.2.2.2.2.2.1 hP j0 3 hj0 rfl (i32_in hi hN) hd ?_
  rw [i32_nat (by omega), Int.toNat_of_nonneg hi.1, hb]
  exact kk hx H locs ls hW2 hS hl
theorem g_aast_Delivery {q b : Nat} {i : Int} (hd : decode cc pc = .ok (.aastore, 1)) (hK : K q = 15) (hN : N q ≤ 2147483647) (hi : 0 ≤ i ∧ i < N q) (hb : K b = 1) (kk : ∀ (Q' : Nat → Int → Option Nat), Q' = g_uq Q q i (some b) → gJ Y X y cc nL ret rm po px k n (pc + 1) L st K N I A R Q') : gJ Y X y cc nL ret rm po px k n pc L (.ref b :: vi i :: .ref q :: st) K N I A R Q := by
  intro hx H locs ls hW hS hl
  obtain ⟨Ls, hL, hP, hD⟩ := hW
  have hK0 : K q ≠ 0 := by rw [hK]; decide
  obtain ⟨j0, hj0⟩ := va_pl_get (X := []) (f := (g_cell Y.2.2.1 K N I A R Q)) ((hL q).mpr hK0)
  obtain ⟨jb, hjb⟩ := va_pl_get (X := []) (f := (g_cell Y.2.2.1 K N I A R Q)) ((hL b).mpr (by rw [hb]; decide))
  have hj1 := hj0
  rw [g_ar3 hK] at hj0
  rw [g_at0 hb] at hjb
  refine va_astq (ci := 0) (r := vwCl[0]) hx.1 hx.2.1 hx.2.2.2.2.2.1 hP hD hS j0 3 jb hj0 rfl hjb rfl (i32_in hi hN) hd (fun H1 locs1 hP1 hD1 hS1 => ?_)
  rw [i32_nat (by omega)] at hP1 hD1
  refine kk _ rfl hx H1 locs1 ls (gW_set hL hK0 hj1 hD hP1 hD1 (g_up_row ?_ (fun _ _ => rfl) (fun b hb => g_uq_rowne _ _ hb))) hS1 hl
  rw [g_ar3 hK, show (fun j : Nat => g_uq Q q i (some b) q (j : Int)) = va_up (fun j : Nat => Q q (j : Int)) i.toNat (some b) from funext fun j => by
    simp only [g_uq, if_pos, va_up]
    by_cases e : j = i.toNat
    · have e2 : (j : Int) = i := by omega
      rw [if_pos e2, if_pos e]
    · have e2 : ¬ (j : Int) = i := by omega
      rw [if_neg e2, if_neg e]]
theorem g_aald_Glaze {q b : Nat} {i : Int} (hd : decode cc pc = .ok (.aaload, 1)) (hK : K q = 16) (hN : N q ≤ 2147483647) (hi : 0 ≤ i ∧ i < N q) (hb : Q q i = some b) (kk : gJ Y X y cc nL ret rm po px k n (pc + 1) L (.ref b :: st) K N I A R Q) : gJ Y X y cc nL ret rm po px k n pc L (vi i :: .ref q :: st) K N I A R Q := by
  intro hx H locs ls hW hS hl
  have hW2 := hW
  obtain ⟨Ls, hL, hP, hD⟩ := hW
  obtain ⟨j0, hj0⟩ := va_pl_get (X := []) (f := (g_cell Y.2.2.1 K N I A R Q)) ((hL q).mpr (by rw [hK]; decide))
  rw [g_ar4 hK] at hj0
  refine va_aldq (C := "TileFactory$Glaze") hx.1 hx.2.1 hx.2.2.2.2.2.1 hP j0 4 hj0 rfl (i32_in hi hN) hd ?_
  rw [i32_nat (by omega), Int.toNat_of_nonneg hi.1, hb]
  exact kk hx H locs ls hW2 hS hl
theorem g_aast_Glaze {q b : Nat} {i : Int} (hd : decode cc pc = .ok (.aastore, 1)) (hK : K q = 16) (hN : N q ≤ 2147483647) (hi : 0 ≤ i ∧ i < N q) (hb : K b = 3) (kk : ∀ (Q' : Nat → Int → Option Nat), Q' = g_uq Q q i (some b) → gJ Y X y cc nL ret rm po px k n (pc + 1) L st K N I A R Q') : gJ Y X y cc nL ret rm po px k n pc L (.ref b :: vi i :: .ref q :: st) K N I A R Q := by
  intro hx H locs ls hW hS hl
  obtain ⟨Ls, hL, hP, hD⟩ := hW
  have hK0 : K q ≠ 0 := by rw [hK]; decide
  obtain ⟨j0, hj0⟩ := va_pl_get (X := []) (f := (g_cell Y.2.2.1 K N I A R Q)) ((hL q).mpr hK0)
  obtain ⟨jb, hjb⟩ := va_pl_get (X := []) (f := (g_cell Y.2.2.1 K N I A R Q)) ((hL b).mpr (by rw [hb]; decide))
  have hj1 := hj0
  rw [g_ar4 hK] at hj0
  rw [g_at2 hb] at hjb
  refine va_astq (ci := 2) (r := vwCl[2]) hx.1 hx.2.1 hx.2.2.2.2.2.1 hP hD hS j0 4 jb hj0 rfl hjb rfl (i32_in hi hN) hd (fun H1 locs1 hP1 hD1 hS1 => ?_)
  rw [i32_nat (by omega)] at hP1 hD1
  refine kk _ rfl hx H1 locs1 ls (gW_set hL hK0 hj1 hD hP1 hD1 (g_up_row ?_ (fun _ _ => rfl) (fun b hb => g_uq_rowne _ _ hb))) hS1 hl
  rw [g_ar4 hK, show (fun j : Nat => g_uq Q q i (some b) q (j : Int)) = va_up (fun j : Nat => Q q (j : Int)) i.toNat (some b) from funext fun j => by
    simp only [g_uq, if_pos, va_up]
    by_cases e : j = i.toNat
    · have e2 : (j : Int) = i := by omega
      rw [if_pos e2, if_pos e]
    · have e2 : ¬ (j : Int) = i := by omega
      rw [if_neg e2, if_neg e]]
theorem g_aald_Lot {q b : Nat} {i : Int} (hd : decode cc pc = .ok (.aaload, 1)) (hK : K q = 17) (hN : N q ≤ 2147483647) (hi : 0 ≤ i ∧ i < N q) (hb : Q q i = some b) (kk : gJ Y X y cc nL ret rm po px k n (pc + 1) L (.ref b :: st) K N I A R Q) : gJ Y X y cc nL ret rm po px k n pc L (vi i :: .ref q :: st) K N I A R Q := by
  intro hx H locs ls hW hS hl
  have hW2 := hW
  obtain ⟨Ls, hL, hP, hD⟩ := hW
  obtain ⟨j0, hj0⟩ := va_pl_get (X := []) (f := (g_cell Y.2.2.1 K N I A R Q)) ((hL q).mpr (by rw [hK]; decide))
  rw [g_ar5 hK] at hj0
  refine va_aldq (C := "TileFactory$Lot") hx.1 hx.2.1 hx.2.2.2.2.2.1 hP j0 5 hj0 rfl (i32_in hi hN) hd ?_
  rw [i32_nat (by omega), Int.toNat_of_nonneg hi.1, hb]
  exact kk hx H locs ls hW2 hS hl
theorem g_aast_Lot {q b : Nat} {i : Int} (hd : decode cc pc = .ok (.aastore, 1)) (hK : K q = 17) (hN : N q ≤ 2147483647) (hi : 0 ≤ i ∧ i < N q) (hb : K b = 5) (kk : ∀ (Q' : Nat → Int → Option Nat), Q' = g_uq Q q i (some b) → gJ Y X y cc nL ret rm po px k n (pc + 1) L st K N I A R Q') : gJ Y X y cc nL ret rm po px k n pc L (.ref b :: vi i :: .ref q :: st) K N I A R Q := by
  intro hx H locs ls hW hS hl
  obtain ⟨Ls, hL, hP, hD⟩ := hW
  have hK0 : K q ≠ 0 := by rw [hK]; decide
  obtain ⟨j0, hj0⟩ := va_pl_get (X := []) (f := (g_cell Y.2.2.1 K N I A R Q)) ((hL q).mpr hK0)
  obtain ⟨jb, hjb⟩ := va_pl_get (X := []) (f := (g_cell Y.2.2.1 K N I A R Q)) ((hL b).mpr (by rw [hb]; decide))
  have hj1 := hj0
  rw [g_ar5 hK] at hj0
  rw [g_at4 hb] at hjb
  refine va_astq (ci := 4) (r := vwCl[4]) hx.1 hx.2.1 hx.2.2.2.2.2.1 hP hD hS j0 5 jb hj0 rfl hjb rfl (i32_in hi hN) hd (fun H1 locs1 hP1 hD1 hS1 => ?_)
  rw [i32_nat (by omega)] at hP1 hD1
  refine kk _ rfl hx H1 locs1 ls (gW_set hL hK0 hj1 hD hP1 hD1 (g_up_row ?_ (fun _ _ => rfl) (fun b hb => g_uq_rowne _ _ hb))) hS1 hl
  rw [g_ar5 hK, show (fun j : Nat => g_uq Q q i (some b) q (j : Int)) = va_up (fun j : Nat => Q q (j : Int)) i.toNat (some b) from funext fun j => by
    simp only [g_uq, if_pos, va_up]
    by_cases e : j = i.toNat
    · have e2 : (j : Int) = i := by omega
      rw [if_pos e2, if_pos e]
    · have e2 : ¬ (j : Int) = i := by omega
      rw [if_neg e2, if_neg e]]
theorem g_aald_Pile {q b : Nat} {i : Int} (hd : decode cc pc = .ok (.aaload, 1)) (hK : K q = 18) (hN : N q ≤ 2147483647) (hi : 0 ≤ i ∧ i < N q) (hb : Q q i = some b) (kk : gJ Y X y cc nL ret rm po px k n (pc + 1) L (.ref b :: st) K N I A R Q) : gJ Y X y cc nL ret rm po px k n pc L (vi i :: .ref q :: st) K N I A R Q := by
  intro hx H locs ls hW hS hl
  have hW2 := hW
  obtain ⟨Ls, hL, hP, hD⟩ := hW
  obtain ⟨j0, hj0⟩ := va_pl_get (X := []) (f := (g_cell Y.2.2.1 K N I A R Q)) ((hL q).mpr (by rw [hK]; decide))
  rw [g_ar6 hK] at hj0
  refine va_aldq (C := "TileFactory$Pile") hx.1 hx.2.1 hx.2.2.2.2.2.1 hP j0 6 hj0 rfl (i32_in hi hN) hd ?_
  rw [i32_nat (by omega), Int.toNat_of_nonneg hi.1, hb]
  exact kk hx H locs ls hW2 hS hl
theorem g_aast_Pile {q b : Nat} {i : Int} (hd : decode cc pc = .ok (.aastore, 1)) (hK : K q = 18) (hN : N q ≤ 2147483647) (hi : 0 ≤ i ∧ i < N q) (hb : K b = 6) (kk : ∀ (Q' : Nat → Int → Option Nat), Q' = g_uq Q q i (some b) → gJ Y X y cc nL ret rm po px k n (pc + 1) L st K N I A R Q') : gJ Y X y cc nL ret rm po px k n pc L (.ref b :: vi i :: .ref q :: st) K N I A R Q := by
  intro hx H locs ls hW hS hl
  obtain ⟨Ls, hL, hP, hD⟩ := hW
  have hK0 : K q ≠ 0 := by rw [hK]; decide
  obtain ⟨j0, hj0⟩ := va_pl_get (X := []) (f := (g_cell Y.2.2.1 K N I A R Q)) ((hL q).mpr hK0)
  obtain ⟨jb, hjb⟩ := va_pl_get (X := []) (f := (g_cell Y.2.2.1 K N I A R Q)) ((hL b).mpr (by rw [hb]; decide))
  have hj1 := hj0
  rw [g_ar6 hK] at hj0
  rw [g_at5 hb] at hjb
  refine va_astq (ci := 5) (r := vwCl[5]) hx.1 hx.2.1 hx.2.2.2.2.2.1 hP hD hS j0 6 jb hj0 rfl hjb rfl (i32_in hi hN) hd (fun H1 locs1 hP1 hD1 hS1 => ?_)
  rw [i32_nat (by omega)] at hP1 hD1
  refine kk _ rfl hx H1 locs1 ls (gW_set hL hK0 hj1 hD hP1 hD1 (g_up_row ?_ (fun _ _ => rfl) (fun b hb => g_uq_rowne _ _ hb))) hS1 hl
  rw [g_ar6 hK, show (fun j : Nat => g_uq Q q i (some b) q (j : Int)) = va_up (fun j : Nat => Q q (j : Int)) i.toNat (some b) from funext fun j => by
    simp only [g_uq, if_pos, va_up]
    by_cases e : j = i.toNat
    · have e2 : (j : Int) = i := by omega
      rw [if_pos e2, if_pos e]
    · have e2 : ¬ (j : Int) = i := by omega
      rw [if_neg e2, if_neg e]]
theorem g_aald_Position {q b : Nat} {i : Int} (hd : decode cc pc = .ok (.aaload, 1)) (hK : K q = 19) (hN : N q ≤ 2147483647) (hi : 0 ≤ i ∧ i < N q) (hb : Q q i = some b) (kk : gJ Y X y cc nL ret rm po px k n (pc + 1) L (.ref b :: st) K N I A R Q) : gJ Y X y cc nL ret rm po px k n pc L (vi i :: .ref q :: st) K N I A R Q := by
  intro hx H locs ls hW hS hl
  have hW2 := hW
  obtain ⟨Ls, hL, hP, hD⟩ := hW
  obtain ⟨j0, hj0⟩ := va_pl_get (X := []) (f := (g_cell Y.2.2.1 K N I A R Q)) ((hL q).mpr (by rw [hK]; decide))
  rw [g_ar7 hK] at hj0
  refine va_aldq (C := "TileFactory$Position") hx.1 hx.2.1 hx.2.2.2.2.2.1 hP j0 7 hj0 rfl (i32_in hi hN) hd ?_
  rw [i32_nat (by omega), Int.toNat_of_nonneg hi.1, hb]
  exact kk hx H locs ls hW2 hS hl
theorem g_aast_Position {q b : Nat} {i : Int} (hd : decode cc pc = .ok (.aastore, 1)) (hK : K q = 19) (hN : N q ≤ 2147483647) (hi : 0 ≤ i ∧ i < N q) (hb : K b = 7) (kk : ∀ (Q' : Nat → Int → Option Nat), Q' = g_uq Q q i (some b) → gJ Y X y cc nL ret rm po px k n (pc + 1) L st K N I A R Q') : gJ Y X y cc nL ret rm po px k n pc L (.ref b :: vi i :: .ref q :: st) K N I A R Q := by
  intro hx H locs ls hW hS hl
  obtain ⟨Ls, hL, hP, hD⟩ := hW
  have hK0 : K q ≠ 0 := by rw [hK]; decide
  obtain ⟨j0, hj0⟩ := va_pl_get (X := []) (f := (g_cell Y.2.2.1 K N I A R Q)) ((hL q).mpr hK0)
  obtain ⟨jb, hjb⟩ := va_pl_get (X := []) (f := (g_cell Y.2.2.1 K N I A R Q)) ((hL b).mpr (by rw [hb]; decide))
  have hj1 := hj0
  rw [g_ar7 hK] at hj0
  rw [g_at6 hb] at hjb
  refine va_astq (ci := 6) (r := vwCl[6]) hx.1 hx.2.1 hx.2.2.2.2.2.1 hP hD hS j0 7 jb hj0 rfl hjb rfl (i32_in hi hN) hd (fun H1 locs1 hP1 hD1 hS1 => ?_)
  rw [i32_nat (by omega)] at hP1 hD1
  refine kk _ rfl hx H1 locs1 ls (gW_set hL hK0 hj1 hD hP1 hD1 (g_up_row ?_ (fun _ _ => rfl) (fun b hb => g_uq_rowne _ _ hb))) hS1 hl
  rw [g_ar7 hK, show (fun j : Nat => g_uq Q q i (some b) q (j : Int)) = va_up (fun j : Nat => Q q (j : Int)) i.toNat (some b) from funext fun j => by
    simp only [g_uq, if_pos, va_up]
    by_cases e : j = i.toNat
    · have e2 : (j : Int) = i := by omega
      rw [if_pos e2, if_pos e]
    · have e2 : ¬ (j : Int) = i := by omega
      rw [if_neg e2, if_neg e]]
theorem g_aald_State {q b : Nat} {i : Int} (hd : decode cc pc = .ok (.aaload, 1)) (hK : K q = 20) (hN : N q ≤ 2147483647) (hi : 0 ≤ i ∧ i < N q) (hb : Q q i = some b) (kk : gJ Y X y cc nL ret rm po px k n (pc + 1) L (.ref b :: st) K N I A R Q) : gJ Y X y cc nL ret rm po px k n pc L (vi i :: .ref q :: st) K N I A R Q := by
  intro hx H locs ls hW hS hl
  have hW2 := hW
  obtain ⟨Ls, hL, hP, hD⟩ := hW
  obtain ⟨j0, hj0⟩ := va_pl_get (X := []) (f := (g_cell Y.2.2.1 K N I A R Q)) ((hL q).mpr (by rw [hK]; decide))
  rw [g_ar8 hK] at hj0
  refine va_aldq (C := "TileFactory$State") hx.1 hx.2.1 hx.2.2.2.2.2.1 hP j0 8 hj0 rfl (i32_in hi hN) hd ?_
  rw [i32_nat (by omega), Int.toNat_of_nonneg hi.1, hb]
  exact kk hx H locs ls hW2 hS hl
theorem g_aast_State {q b : Nat} {i : Int} (hd : decode cc pc = .ok (.aastore, 1)) (hK : K q = 20) (hN : N q ≤ 2147483647) (hi : 0 ≤ i ∧ i < N q) (hb : K b = 9) (kk : ∀ (Q' : Nat → Int → Option Nat), Q' = g_uq Q q i (some b) → gJ Y X y cc nL ret rm po px k n (pc + 1) L st K N I A R Q') : gJ Y X y cc nL ret rm po px k n pc L (.ref b :: vi i :: .ref q :: st) K N I A R Q := by
  intro hx H locs ls hW hS hl
  obtain ⟨Ls, hL, hP, hD⟩ := hW
  have hK0 : K q ≠ 0 := by rw [hK]; decide
  obtain ⟨j0, hj0⟩ := va_pl_get (X := []) (f := (g_cell Y.2.2.1 K N I A R Q)) ((hL q).mpr hK0)
  obtain ⟨jb, hjb⟩ := va_pl_get (X := []) (f := (g_cell Y.2.2.1 K N I A R Q)) ((hL b).mpr (by rw [hb]; decide))
  have hj1 := hj0
  rw [g_ar8 hK] at hj0
  rw [g_at8 hb] at hjb
  refine va_astq (ci := 8) (r := vwCl[8]) hx.1 hx.2.1 hx.2.2.2.2.2.1 hP hD hS j0 8 jb hj0 rfl hjb rfl (i32_in hi hN) hd (fun H1 locs1 hP1 hD1 hS1 => ?_)
  rw [i32_nat (by omega)] at hP1 hD1
  refine kk _ rfl hx H1 locs1 ls (gW_set hL hK0 hj1 hD hP1 hD1 (g_up_row ?_ (fun _ _ => rfl) (fun b hb => g_uq_rowne _ _ hb))) hS1 hl
  rw [g_ar8 hK, show (fun j : Nat => g_uq Q q i (some b) q (j : Int)) = va_up (fun j : Nat => Q q (j : Int)) i.toNat (some b) from funext fun j => by
    simp only [g_uq, if_pos, va_up]
    by_cases e : j = i.toNat
    · have e2 : (j : Int) = i := by omega
      rw [if_pos e2, if_pos e]
    · have e2 : ¬ (j : Int) = i := by omega
      rw [if_neg e2, if_neg e]]
theorem g_alen_c {q : Nat} (hd : decode cc pc = .ok (.arraylength, 1)) (hK : K q = 12) (kk : gJ Y X y cc nL ret rm po px k n (pc + 1) L (vi (N q) :: st) K N I A R Q) : gJ Y X y cc nL ret rm po px k n pc L (.ref q :: st) K N I A R Q := by
  intro hx H locs ls hW hS hl
  have hW2 := hW
  obtain ⟨Ls, hL, hP, hD⟩ := hW
  obtain ⟨j0, hj0⟩ := va_pl_get (X := []) (f := (g_cell Y.2.2.1 K N I A R Q)) ((hL q).mpr (by rw [hK]; decide))
  rw [g_ar0 hK] at hj0
  exact va_alen hx.1 hx.2.1 hx.2.2.2.2.2.1 hP j0 hj0 (ty := .char) (t0 := 0) rfl (v := Int32.ofInt (N q)) (Int32.ofInt_eq_ofNat).symm hd (kk hx H locs ls hW2 hS hl)
theorem g_alen_i {q : Nat} (hd : decode cc pc = .ok (.arraylength, 1)) (hK : K q = 13) (kk : gJ Y X y cc nL ret rm po px k n (pc + 1) L (vi (N q) :: st) K N I A R Q) : gJ Y X y cc nL ret rm po px k n pc L (.ref q :: st) K N I A R Q := by
  intro hx H locs ls hW hS hl
  have hW2 := hW
  obtain ⟨Ls, hL, hP, hD⟩ := hW
  obtain ⟨j0, hj0⟩ := va_pl_get (X := []) (f := (g_cell Y.2.2.1 K N I A R Q)) ((hL q).mpr (by rw [hK]; decide))
  rw [g_ar1 hK] at hj0
  exact va_alen hx.1 hx.2.1 hx.2.2.2.2.2.1 hP j0 hj0 (ty := .int) (t0 := 1) rfl (v := Int32.ofInt (N q)) (Int32.ofInt_eq_ofNat).symm hd (kk hx H locs ls hW2 hS hl)
theorem g_alen_Delivery {q : Nat} (hd : decode cc pc = .ok (.arraylength, 1)) (hK : K q = 15) (kk : gJ Y X y cc nL ret rm po px k n (pc + 1) L (vi (N q) :: st) K N I A R Q) : gJ Y X y cc nL ret rm po px k n pc L (.ref q :: st) K N I A R Q := by
  intro hx H locs ls hW hS hl
  have hW2 := hW
  obtain ⟨Ls, hL, hP, hD⟩ := hW
  obtain ⟨j0, hj0⟩ := va_pl_get (X := []) (f := (g_cell Y.2.2.1 K N I A R Q)) ((hL q).mpr (by rw [hK]; decide))
  rw [g_ar3 hK] at hj0
  exact va_alen hx.1 hx.2.1 hx.2.2.2.2.2.1 hP j0 hj0 (ty := (.object "TileFactory$Delivery")) (t0 := 3) rfl (v := Int32.ofInt (N q)) (Int32.ofInt_eq_ofNat).symm hd (kk hx H locs ls hW2 hS hl)
theorem g_alen_Glaze {q : Nat} (hd : decode cc pc = .ok (.arraylength, 1)) (hK : K q = 16) (kk : gJ Y X y cc nL ret rm po px k n (pc + 1) L (vi (N q) :: st) K N I A R Q) : gJ Y X y cc nL ret rm po px k n pc L (.ref q :: st) K N I A R Q := by
  intro hx H locs ls hW hS hl
  have hW2 := hW
  obtain ⟨Ls, hL, hP, hD⟩ := hW
  obtain ⟨j0, hj0⟩ := va_pl_get (X := []) (f := (g_cell Y.2.2.1 K N I A R Q)) ((hL q).mpr (by rw [hK]; decide))
  rw [g_ar4 hK] at hj0
  exact va_alen hx.1 hx.2.1 hx.2.2.2.2.2.1 hP j0 hj0 (ty := (.object "TileFactory$Glaze")) (t0 := 4) rfl (v := Int32.ofInt (N q)) (Int32.ofInt_eq_ofNat).symm hd (kk hx H locs ls hW2 hS hl)
theorem g_alen_Lot {q : Nat} (hd : decode cc pc = .ok (.arraylength, 1)) (hK : K q = 17) (kk : gJ Y X y cc nL ret rm po px k n (pc + 1) L (vi (N q) :: st) K N I A R Q) : gJ Y X y cc nL ret rm po px k n pc L (.ref q :: st) K N I A R Q := by
  intro hx H locs ls hW hS hl
  have hW2 := hW
  obtain ⟨Ls, hL, hP, hD⟩ := hW
  obtain ⟨j0, hj0⟩ := va_pl_get (X := []) (f := (g_cell Y.2.2.1 K N I A R Q)) ((hL q).mpr (by rw [hK]; decide))
  rw [g_ar5 hK] at hj0
  exact va_alen hx.1 hx.2.1 hx.2.2.2.2.2.1 hP j0 hj0 (ty := (.object "TileFactory$Lot")) (t0 := 5) rfl (v := Int32.ofInt (N q)) (Int32.ofInt_eq_ofNat).symm hd (kk hx H locs ls hW2 hS hl)
theorem g_alen_Pile {q : Nat} (hd : decode cc pc = .ok (.arraylength, 1)) (hK : K q = 18) (kk : gJ Y X y cc nL ret rm po px k n (pc + 1) L (vi (N q) :: st) K N I A R Q) : gJ Y X y cc nL ret rm po px k n pc L (.ref q :: st) K N I A R Q := by
  intro hx H locs ls hW hS hl
  have hW2 := hW
  obtain ⟨Ls, hL, hP, hD⟩ := hW
  obtain ⟨j0, hj0⟩ := va_pl_get (X := []) (f := (g_cell Y.2.2.1 K N I A R Q)) ((hL q).mpr (by rw [hK]; decide))
  rw [g_ar6 hK] at hj0
  exact va_alen hx.1 hx.2.1 hx.2.2.2.2.2.1 hP j0 hj0 (ty := (.object "TileFactory$Pile")) (t0 := 6) rfl (v := Int32.ofInt (N q)) (Int32.ofInt_eq_ofNat).symm hd (kk hx H locs ls hW2 hS hl)
theorem g_alen_Position {q : Nat} (hd : decode cc pc = .ok (.arraylength, 1)) (hK : K q = 19) (kk : gJ Y X y cc nL ret rm po px k n (pc + 1) L (vi (N q) :: st) K N I A R Q) : gJ Y X y cc nL ret rm po px k n pc L (.ref q :: st) K N I A R Q := by
  intro hx H locs ls hW hS hl
  have hW2 := hW
  obtain ⟨Ls, hL, hP, hD⟩ := hW
  obtain ⟨j0, hj0⟩ := va_pl_get (X := []) (f := (g_cell Y.2.2.1 K N I A R Q)) ((hL q).mpr (by rw [hK]; decide))
  rw [g_ar7 hK] at hj0
  exact va_alen hx.1 hx.2.1 hx.2.2.2.2.2.1 hP j0 hj0 (ty := (.object "TileFactory$Position")) (t0 := 7) rfl (v := Int32.ofInt (N q)) (Int32.ofInt_eq_ofNat).symm hd (kk hx H locs ls hW2 hS hl)
theorem g_alen_State {q : Nat} (hd : decode cc pc = .ok (.arraylength, 1)) (hK : K q = 20) (kk : gJ Y X y cc nL ret rm po px k n (pc + 1) L (vi (N q) :: st) K N I A R Q) : gJ Y X y cc nL ret rm po px k n pc L (.ref q :: st) K N I A R Q := by
  intro hx H locs ls hW hS hl
  have hW2 := hW
  obtain ⟨Ls, hL, hP, hD⟩ := hW
  obtain ⟨j0, hj0⟩ := va_pl_get (X := []) (f := (g_cell Y.2.2.1 K N I A R Q)) ((hL q).mpr (by rw [hK]; decide))
  rw [g_ar8 hK] at hj0
  exact va_alen hx.1 hx.2.1 hx.2.2.2.2.2.1 hP j0 hj0 (ty := (.object "TileFactory$State")) (t0 := 8) rfl (v := Int32.ofInt (N q)) (Int32.ofInt_eq_ofNat).symm hd (kk hx H locs ls hW2 hS hl)
end GH
