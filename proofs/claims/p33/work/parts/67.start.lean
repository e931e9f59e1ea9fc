/-! ===== what the Statement gives of the start ===== -/
def lw_flat : List Cond := flatC (Jvm.Cond.and given_1 narrow_1)
theorem va_En.cg {E d : String} {nm : List String} {F : List (String × String × String × List Int32)} {ad ad' : Nat → Nat} {A : Nat → Prop} {U : State} {H : Heap} (h : va_En E d nm F ad A U H) (e : ∀ i, i < nm.length → ad' i = ad i) : va_En E d nm F ad' A U H := ⟨fun i hi => by rw [e i hi]; exact h.1 i hi, fun i j hi hj he => h.2 i j hi hj (by rw [← e i hi, ← e j hj]; exact he)⟩
theorem va_Ef.cg {N : Nat} {o n d : String} {v v' : Nat → Value} {ad ad' : Nat → Nat} {A : Nat → Prop} {U : State} {H : Heap} (h : va_Ef N o n d v ad A U H) (e : ∀ i, i < N → ad' i = ad i) (e2 : ∀ i, i < N → v' i = v i) : va_Ef N o n d v' ad' A U H := fun i hi => by rw [e i hi, e2 i hi]; exact h i hi
theorem vk_S.cg {N : Nat} {len : List Nat} {byt : List (List Int32)} {adK adV adK' adV' : Nat → Nat} {A : Nat → Prop} {U : State} {H : Heap} (h : vk_S N len byt adK adV A U H) (e : ∀ i, i < N → adK' i = adK i) (e2 : ∀ i, i < N → adV' i = adV i) : vk_S N len byt adK' adV' A U H := ⟨fun i hi => by rw [e i hi, e2 i hi]; exact h.1 i hi, fun i j hi hj he => h.2 i j hi hj (by rw [← e i hi, ← e j hj]; exact he)⟩
theorem gVb.cg {ad ad' : Nat → Nat} {A : Nat → Prop} {U : State} {H : Heap} (h : gVb ad A U H) (e : ∀ i, i < 5 → ad' i = ad i) : gVb ad' A U H := ⟨fun i hi => by rw [e i hi]; exact h.1 i hi, fun i j hi hj he => h.2.1 i j hi hj (by rw [← e i hi, ← e j hj]; exact he), h.2.2.1.cg e (fun _ _ => rfl), h.2.2.2.cg e (fun _ _ => rfl)⟩
theorem va_T.cg {ty : FieldType} {t N : Nat} {f f' : Nat → Value} {A : Nat → Prop} {U : State} {H : Heap} (h : va_T ty t N f A U H) (e : ∀ j, j < N → f' j = f j) : va_T ty t N f' A U H := by
  obtain ⟨cell, h1, h2, h3, h4, h5, h6, h7⟩ := h
  exact ⟨cell, h1, h2, h3, h4, h5, fun j hj => by rw [e j hj]; exact h6 j hj, h7⟩
theorem arr_prim {s : State} {args : Array Value} {ty : FieldType} (h : (Cond.arrayClass ty).before args s = true) : ∃ cA, s.vm.findClass ("[" ++ ty.toString) = some cA ∧ ArrOfT s cA ty := by
  obtain ⟨cA, kA, comp, h1, h2, h3⟩ := Cond.arrayClass_spec h
  exact ⟨cA, h1, fun N z => ⟨(fun k h => by cases h), kA, h2, comp, h3⟩⟩
theorem arr_obj {s : State} {args : Array Value} {C : String} (h : (Cond.arrayOver (.object C)).before args s = true) : ∃ cA, ArrOfT s cA (.object C) ∧ va_RA s cA (.object C) := by
  obtain ⟨comp, cA, kA, hcomp, hidx, hkA, hkindA, hnameA⟩ := Cond.arrayOver_spec h
  exact ⟨cA, fun N z => ⟨(fun k h => by cases h), kA, hkA, comp, hkindA⟩, kA, comp, hkA, hkindA, hcomp, hnameA⟩
theorem lt_mem (i : Nat) {w : Cond} (h : lw_tbl[i]? = some w) : w ∈ lw_tbl := List.mem_of_getElem? h
theorem lt_over_Delivery : Cond.arrayOver (.object "TileFactory$Delivery") ∈ lw_tbl := lt_mem 67 (by decide +kernel)
theorem lt_over_Glaze : Cond.arrayOver (.object "TileFactory$Glaze") ∈ lw_tbl := lt_mem 59 (by decide +kernel)
theorem lt_over_Lot : Cond.arrayOver (.object "TileFactory$Lot") ∈ lw_tbl := lt_mem 65 (by decide +kernel)
theorem lt_over_Pile : Cond.arrayOver (.object "TileFactory$Pile") ∈ lw_tbl := lt_mem 63 (by decide +kernel)
theorem lt_over_Position : Cond.arrayOver (.object "TileFactory$Position") ∈ lw_tbl := lt_mem 61 (by decide +kernel)
theorem lt_over_State : Cond.arrayOver (.object "TileFactory$State") ∈ lw_tbl := lt_mem 261 (by decide +kernel)
theorem lt_lay_VERBS : Cond.laysStatic "TileFactory" "VERBS" "[LTileFactory$Verb;" ∈ lw_tbl := lt_mem 906 (by decide +kernel)
theorem lt_lay_CS : Cond.laysStatic "java/lang/String" "COMPACT_STRINGS" "Z" ∈ lw_tbl := lt_mem 920 (by decide +kernel)
theorem lt_lay_SF : Cond.laysStatic "jdk/internal/util/Preconditions" "SIOOBE_FORMATTER" "Ljava/util/function/BiFunction;" ∈ lw_tbl := lt_mem 936 (by decide +kernel)
theorem lt_lay_US : Cond.laysStatic "java/lang/Throwable" "UNASSIGNED_STACK" "[Ljava/lang/StackTraceElement;" ∈ lw_tbl := lt_mem 366 (by decide +kernel)
theorem lt_lay_SS : Cond.laysStatic "java/lang/Throwable" "SUPPRESSED_SENTINEL" "Ljava/util/List;" ∈ lw_tbl := lt_mem 368 (by decide +kernel)
theorem lt_str0 : Cond.stringRef "TileFactory" 315 "there is nothing with this number" ∈ lw_tbl := lt_mem 380 (by decide +kernel)
theorem lt_str1 : Cond.stringRef "TileFactory" 322 "an argument is out of range" ∈ lw_tbl := lt_mem 419 (by decide +kernel)
theorem lt_str2 : Cond.stringRef "TileFactory" 327 "the factory's state does not allow this call" ∈ lw_tbl := lt_mem 526 (by decide +kernel)
theorem lt_layF : ∀ i, i < 4 → Cond.laysStatic "TileFactory$Fault" ((["NOTHING", "INDEX", "ARGUMENT", "STATE"] : List String).getD i "") "LTileFactory$Fault;" ∈ lw_tbl := by decide +kernel
abbrev nmF : List String := ["NOTHING", "INDEX", "ARGUMENT", "STATE"]
abbrev nmV : List String := ["FIRE", "GRADE", "PACK", "SHIP", "DROP"]
abbrev tmF (i : Nat) : Term := .static "TileFactory$Fault" (nmF.getD i "") "LTileFactory$Fault;"
abbrev tmV (i : Nat) : Term := .static "TileFactory$Verb" (nmV.getD i "") "LTileFactory$Verb;"
abbrev tmS (i : Nat) : Term := .string "TileFactory$Verb" (([47, 53, 56, 59, 62] : List Nat).getD i 0)
abbrev tmB (i : Nat) : Term := .field (tmS i) "java/lang/String" "value" "[B"
abbrev tVs : Term := .static "TileFactory" "VERBS" "[LTileFactory$Verb;"
abbrev lenS : List Nat := [4, 5, 4, 4, 4]
abbrev bytS : List (List Int32) := [[102, 105, 114, 101], [103, 114, 97, 100, 101], [112, 97, 99, 107], [115, 104, 105, 112], [100, 114, 111, 112]]
theorem nw_exF : ∀ i, i < 4 → Cond.exactly (tmF i) "TileFactory$Fault" ∈ lw_flat := by decide +kernel
theorem nw_neF : ∀ i, i < 4 → ∀ j, j < 4 → i ≠ j → Cond.not (.eq (tmF i) (tmF j)) ∈ lw_flat ∨ Cond.not (.eq (tmF j) (tmF i)) ∈ lw_flat := by decide +kernel
theorem nw_exV : ∀ i, i < 5 → Cond.exactly (tmV i) "TileFactory$Verb" ∈ lw_flat := by decide +kernel
theorem nw_neV : ∀ i, i < 5 → ∀ j, j < 5 → i ≠ j → Cond.not (.eq (tmV i) (tmV j)) ∈ lw_flat ∨ Cond.not (.eq (tmV j) (tmV i)) ∈ lw_flat := by decide +kernel
theorem nw_orV : ∀ i, i < 5 → Cond.eq (.field (tmV i) "java/lang/Enum" "ordinal" "I") (.int (([0, 1, 2, 3, 4] : List Int32).getD i 0)) ∈ lw_flat := by decide +kernel
theorem nw_agV : ∀ i, i < 5 → Cond.eq (.field (tmV i) "TileFactory$Verb" "arguments" "I") (.int (([4, 1, 0, 3, 4] : List Int32).getD i 0)) ∈ lw_flat := by decide +kernel
theorem nw_woV : ∀ i, i < 5 → Cond.eq (.field (tmV i) "TileFactory$Verb" "word" "Ljava/lang/String;") (tmS i) ∈ lw_flat := by decide +kernel
theorem nw_exS : ∀ i, i < 5 → Cond.exactly (tmS i) "java/lang/String" ∈ lw_flat := by decide +kernel
theorem nw_coS : ∀ i, i < 5 → Cond.eq (.field (tmS i) "java/lang/String" "coder" "B") (.int 0) ∈ lw_flat := by decide +kernel
theorem nw_arS : ∀ i, i < 5 → Cond.arrayOf (tmB i) .byte ∈ lw_flat := by decide +kernel
theorem nw_leS : ∀ i, i < 5 → Cond.eq (.length (tmB i)) (.int (Int32.ofNat (lenS.getD i 0))) ∈ lw_flat := by decide +kernel
theorem nw_elS : ∀ i, i < 5 → ∀ j, j < lenS.getD i 0 → Cond.eq (.elem (tmB i) (.int (Int32.ofNat j))) (.int ((bytS.getD i []).getD j 0)) ∈ lw_flat := by decide +kernel
theorem nw_neS : ∀ i, i < 5 → ∀ j, j < 5 → i ≠ j → Cond.not (.eq (tmS i) (tmS j)) ∈ lw_flat ∨ Cond.not (.eq (tmS j) (tmS i)) ∈ lw_flat := by decide +kernel
theorem nw_arVs : Cond.arrayOf tVs (.object "TileFactory$Verb") ∈ lw_flat := by decide +kernel
theorem nw_leVs : Cond.eq (.length tVs) (.int 5) ∈ lw_flat := by decide +kernel
theorem nw_elVs : ∀ i, i < 5 → Cond.eq (.elem tVs (.int (Int32.ofNat i))) (tmV i) ∈ lw_flat := by decide +kernel
theorem nw_cs : Cond.eq (.static "java/lang/String" "COMPACT_STRINGS" "Z") (.int 1) ∈ lw_flat := by decide +kernel
theorem nw_sf : Cond.isRef (.static "jdk/internal/util/Preconditions" "SIOOBE_FORMATTER" "Ljava/util/function/BiFunction;") ∈ lw_flat := by decide +kernel
theorem nw_us : Cond.isRef (.static "java/lang/Throwable" "UNASSIGNED_STACK" "[Ljava/lang/StackTraceElement;") ∈ lw_flat := by decide +kernel
theorem nw_ss : Cond.isRef (.static "java/lang/Throwable" "SUPPRESSED_SENTINEL" "Ljava/util/List;") ∈ lw_flat := by decide +kernel
theorem nw_s0 : Cond.exactly (.string "TileFactory" 315) "java/lang/String" ∈ lw_flat := by decide +kernel
theorem nw_s1 : Cond.exactly (.string "TileFactory" 322) "java/lang/String" ∈ lw_flat := by decide +kernel
theorem nw_s2 : Cond.exactly (.string "TileFactory" 327) "java/lang/String" ∈ lw_flat := by decide +kernel
theorem nw_c0 : Cond.not (.castable "java/lang/IllegalArgumentException" "java/lang/IndexOutOfBoundsException") ∈ lw_flat := by decide +kernel
theorem nw_c1 : Cond.not (.castable "java/lang/IllegalStateException" "java/lang/IndexOutOfBoundsException") ∈ lw_flat := by decide +kernel
theorem nw_c2 : Cond.not (.castable "java/lang/IllegalStateException" "java/lang/IllegalArgumentException") ∈ lw_flat := by decide +kernel
set_option maxHeartbeats 4000000 in
set_option maxRecDepth 100000 in
theorem lw_classes {s : State} {args : Array Value} (hgood : ∀ w ∈ lw_good, w.before args s = true) : ∃ D : va_G, ∀ (k : Nat) (q : vw_C), vwCl[k]? = some q → u_Kn s q.1 q.2.1 q.2.2 (D.1 k) (D.2 k) := by
  have h0 : ∀ k : Nat, ∃ z : ClassId × (Nat → Nat), ∀ q : vw_C, vwCl[k]? = some q → u_Kn s q.1 q.2.1 q.2.2 z.1 z.2 := fun k => match k with
    | 0 => by
      obtain ⟨cC, iS, h⟩ := u_known (C := RX1) (T := TX1) (N := 5) (n := 5) hgood lg_in0 (hgood _ mw_178)
      exact ⟨(cC, iS), fun q hq => by cases hq; exact h⟩
    | 1 => by
      obtain ⟨cC, iS, h⟩ := u_known (C := RX2) (T := TX2) (N := 3) (n := 3) hgood lg_in1 (hgood _ mw_69)
      exact ⟨(cC, iS), fun q hq => by cases hq; exact h⟩
    | 2 => by
      obtain ⟨cC, iS, h⟩ := u_known (C := RX4) (T := TX4) (N := 4) (n := 4) hgood lg_in2 (hgood _ mw_85)
      exact ⟨(cC, iS), fun q hq => by cases hq; exact h⟩
    | 3 => by
      obtain ⟨cC, iS, h⟩ := u_known (C := RX5) (T := TX5) (N := 2) (n := 2) hgood lg_in3 (hgood _ mw_255)
      exact ⟨(cC, iS), fun q hq => by cases hq; exact h⟩
    | 4 => by
      obtain ⟨cC, iS, h⟩ := u_known (C := RX6) (T := TX6) (N := 6) (n := 6) hgood lg_in4 (hgood _ mw_150)
      exact ⟨(cC, iS), fun q hq => by cases hq; exact h⟩
    | 5 => by
      obtain ⟨cC, iS, h⟩ := u_known (C := RX7) (T := TX7) (N := 4) (n := 4) hgood lg_in5 (hgood _ mw_128)
      exact ⟨(cC, iS), fun q hq => by cases hq; exact h⟩
    | 6 => by
      obtain ⟨cC, iS, h⟩ := u_known (C := RX8) (T := TX8) (N := 4) (n := 4) hgood lg_in6 (hgood _ mw_108)
      exact ⟨(cC, iS), fun q hq => by cases hq; exact h⟩
    | 7 => by
      obtain ⟨cC, iS, h⟩ := u_known (C := RX9) (T := TX9) (N := 7) (n := 7) hgood lg_in7 (hgood _ mw_271)
      exact ⟨(cC, iS), fun q hq => by cases hq; exact h⟩
    | 8 => by
      obtain ⟨cC, iS, h⟩ := u_known (C := RX10) (T := TX10) (N := 14) (n := 14) hgood lg_in8 (hgood _ mw_53)
      exact ⟨(cC, iS), fun q hq => by cases hq; exact h⟩
    | 9 => by
      obtain ⟨cC, iS, h⟩ := u_known (C := RX12) (T := TX12) (N := 3) (n := 3) hgood lg_in9 (hgood _ mw_45)
      exact ⟨(cC, iS), fun q hq => by cases hq; exact h⟩
    | k + 10 => by
      obtain ⟨cC, iS, h⟩ := u_known (C := RX1) (T := TX1) (N := 5) (n := 5) hgood lg_in0 (hgood _ mw_178)
      exact ⟨(cC, iS), fun q hq => by simp [vwCl] at hq⟩
  exact ⟨(fun k => (h0 k).choose.1, fun k => (h0 k).choose.2), fun k q hq => (h0 k).choose_spec q hq⟩
set_option maxHeartbeats 4000000 in
set_option maxRecDepth 100000 in
theorem lw_env {s : State} {args : Array Value} (l : Launch) (hflags : l.flags = flags0) (hts : ∀ w ∈ lw_tbl, w.before args s = true) (hnw : ∀ w ∈ lw_flat, w.before args s = true) : ∃ Y : gEnv, Y.1 = l ∧ Y.2.2.2 = s.heap.size ∧ va_K Y.2.1 vwCl (g_tys Y.2.2.1) s ∧ gExt s ∧ gSt Y s s.heap := by
  have hgood : ∀ w ∈ lw_good, w.before args s = true := fun w hw => hts w (List.mem_filter.mp hw).1
  obtain ⟨Dg, hD⟩ := lw_classes hgood
  have hA : ∀ a : Nat, a < s.heap.size → ¬ (fun q : Nat => s.heap.size ≤ q) a := fun a ha => Nat.not_le.mpr ha
  obtain ⟨a0, p0, q0⟩ := arr_prim (hgood _ mw_299)
  obtain ⟨a1, p1, q1⟩ := arr_prim (hgood _ mw_84)
  obtain ⟨a2, p2, q2⟩ := arr_prim (hgood _ mw_84)
  obtain ⟨a3, q3, p3⟩ := arr_obj (hts _ lt_over_Delivery)
  obtain ⟨a4, q4, p4⟩ := arr_obj (hts _ lt_over_Glaze)
  obtain ⟨a5, q5, p5⟩ := arr_obj (hts _ lt_over_Lot)
  obtain ⟨a6, q6, p6⟩ := arr_obj (hts _ lt_over_Pile)
  obtain ⟨a7, q7, p7⟩ := arr_obj (hts _ lt_over_Position)
  obtain ⟨a8, q8, p8⟩ := arr_obj (hts _ lt_over_State)
  obtain ⟨adF, hF, hFe⟩ := va_Enof2 (E := "TileFactory$Fault") (d := "LTileFactory$Fault;") (nm := nmF) (F := []) (fun i hi => hts _ (lt_layF i hi)) (hgood _ mw_43) (fun i hi => hnw _ (nw_exF i hi)) (fun q hq => nomatch hq) (fun i j hi hj hne => (nw_neF i hi j hj hne).imp (hnw _) (hnw _)) hA
  have hv0 : ∀ i : Nat, ∃ t : Nat, i < 5 → (tmV i).eval args s none [] s = some (.ref t) ∧ va_O "TileFactory$Verb" t (fun q : Nat => s.heap.size ≤ q) s s.heap := fun i => by
    by_cases hi : i < 5
    · obtain ⟨a, c, cell, k, q1, q2, q3, q4, q5, q6, -⟩ := Cond.exactly_spec (hnw _ (nw_exV i hi))
      exact ⟨a, fun _ => ⟨q1, va_Oof (hnw _ (nw_exV i hi)) q1 hA⟩⟩
    · exact ⟨0, fun h => absurd h hi⟩
  obtain ⟨adV, hVa⟩ : ∃ adV : Nat → Nat, ∀ i, i < 5 → (tmV i).eval args s none [] s = some (.ref (adV i)) ∧ va_O "TileFactory$Verb" (adV i) (fun q : Nat => s.heap.size ≤ q) s s.heap := ⟨fun i => (hv0 i).choose, fun i hi => (hv0 i).choose_spec hi⟩
  have hVe : ∀ i, i < 5 → (tmV i).eval args s none [] s = some (.ref (adV i)) := fun i hi => (hVa i hi).1
  have hVn : ∀ i j, i < 5 → j < 5 → adV i = adV j → i = j := fun i j hi hj he => Decidable.byContradiction (fun hne => by
    have h1 := hVe i hi
    have h2 := hVe j hj
    rw [he] at h1
    rcases nw_neV i hi j hj hne with h | h
    · have h3 := hnw _ h
      simp [Cond.before, Cond.holds, Cond.value, h1, h2] at h3
    · have h3 := hnw _ h
      simp [Cond.before, Cond.holds, Cond.value, h1, h2] at h3)
  have hVo : va_Ef 5 "java/lang/Enum" "ordinal" "I" (fun i => .int (([0, 1, 2, 3, 4] : List Int32).getD i 0)) adV (fun q : Nat => s.heap.size ≤ q) s s.heap := va_Efof (E := "TileFactory$Verb") (d0 := "LTileFactory$Verb;") (nm := nmV) (tm := fun i => .int (([0, 1, 2, 3, 4] : List Int32).getD i 0)) hVe (fun i hi => hnw _ (nw_orV i hi)) (fun i hi => rfl) hA
  have hVg : va_Ef 5 "TileFactory$Verb" "arguments" "I" (fun i => .int (([4, 1, 0, 3, 4] : List Int32).getD i 0)) adV (fun q : Nat => s.heap.size ≤ q) s s.heap := va_Efof (E := "TileFactory$Verb") (d0 := "LTileFactory$Verb;") (nm := nmV) (tm := fun i => .int (([4, 1, 0, 3, 4] : List Int32).getD i 0)) hVe (fun i hi => hnw _ (nw_agV i hi)) (fun i hi => rfl) hA
  obtain ⟨adK, adW, hS, hSe⟩ := vk_Sof (N := 5) (tm := tmS) (len := lenS) (byt := bytS) (by decide) (fun i hi => hnw _ (nw_exS i hi)) (fun i hi => hnw _ (nw_coS i hi)) (fun i hi => hnw _ (nw_arS i hi)) (fun i hi => hnw _ (nw_leS i hi)) (fun i hi j hj => hnw _ (nw_elS i hi j hj)) (fun i j hi hj hne => (nw_neS i hi j hj hne).imp (hnw _) (hnw _)) hA
  have hEf : va_Ef 5 "TileFactory$Verb" "word" "Ljava/lang/String;" (fun i => .ref (adK i)) adV (fun q : Nat => s.heap.size ≤ q) s s.heap := va_Efof (E := "TileFactory$Verb") (d0 := "LTileFactory$Verb;") (nm := nmV) (tm := tmS) hVe (fun i hi => hnw _ (nw_woV i hi)) hSe hA
  obtain ⟨t0, e0, hT0⟩ := va_Tof (tm := tVs) (ty := .object "TileFactory$Verb") (N := 5) (f := fun j => .ref (adV j)) (by decide) (hnw _ nw_arVs) (va_eqv (hnw _ nw_leVs) rfl) (fun j hj => va_eqv (hnw _ (nw_elVs j hj)) (hVe j hj)) hA
  obtain ⟨r0, _, _, _, u0, -⟩ := Cond.exactly_spec (hnw _ nw_s0)
  obtain ⟨r1, _, _, _, u1, -⟩ := Cond.exactly_spec (hnw _ nw_s1)
  obtain ⟨r2, _, _, _, u2, -⟩ := Cond.exactly_spec (hnw _ nw_s2)
  refine ⟨(l, Dg, fun n => if n = 0 then a0 else if n = 1 then a1 else if n = 2 then a2 else if n = 3 then a3 else if n = 4 then a4 else if n = 5 then a5 else if n = 6 then a6 else if n = 7 then a7 else if n = 8 then a8 else if n = 60 then t0 else if n = 61 then t0 else if n = 70 then r0 else if n = 71 then r1 else if n = 72 then r2 else if 50 ≤ n then adW (n - 50) else if 40 ≤ n then adK (n - 40) else if 30 ≤ n then adV (n - 30) else adF (n - 20), s.heap.size), rfl, rfl, ⟨hD, fun k q hk => ?_⟩, ?_, ⟨⟨?_, ?_, ?_, ?_, ?_, ?_, ?_, ?_, ?_, ?_, ?_, ?_⟩, ⟨?_, ?_, ?_, ?_⟩, ?_⟩⟩
  · match k, hk with
    | 0, hk => cases hk; exact ⟨q0, p0⟩
    | 1, hk => cases hk; exact ⟨q1, p1⟩
    | 2, hk => cases hk; exact ⟨q2, p2⟩
    | 3, hk => cases hk; exact ⟨q3, p3⟩
    | 4, hk => cases hk; exact ⟨q4, p4⟩
    | 5, hk => cases hk; exact ⟨q5, p5⟩
    | 6, hk => cases hk; exact ⟨q6, p6⟩
    | 7, hk => cases hk; exact ⟨q7, p7⟩
    | 8, hk => cases hk; exact ⟨q8, p8⟩
    | k + 9, hk => simp [g_tys] at hk
  · refine ⟨fun w hw => ?_, va_AO.of (hts _ lt_over_Delivery), va_AO.of (hts _ lt_over_Glaze), va_AO.of (hts _ lt_over_Lot), va_AO.of (hts _ lt_over_Pile), va_AO.of (hts _ lt_over_Position), va_AO.of (hts _ lt_over_State)⟩
    have h1 := hts w (List.mem_filter.mp hw).1
    have h2 := (List.mem_filter.mp hw).2
    cases w <;> first | exact va_Nw.of rfl h1 | (simp [gNestW] at h2)
  · exact va_En.cg hF (fun i hi => by
      have hi4 : i < 4 := hi
      show (if _ then _ else _) = _
      repeat rw [if_neg (by omega)]
      rw [show 20 + i - 20 = i by omega])
  · exact gVb.cg (ad := adV) ⟨fun i hi => (hVa i hi).2, hVn, hVo, hVg⟩ (fun i hi => by
      show (if _ then _ else _) = _
      iterate 16 rw [if_neg (by omega)]
      rw [if_pos (by omega), show 30 + i - 30 = i by omega])
  · exact va_Ef.cg hEf (fun i hi => by
      show (if _ then _ else _) = _
      iterate 16 rw [if_neg (by omega)]
      rw [if_pos (by omega), show 30 + i - 30 = i by omega]) (fun i hi => congrArg Value.ref (by
      show (if _ then _ else _) = _
      iterate 15 rw [if_neg (by omega)]
      rw [if_pos (by omega), show 40 + i - 40 = i by omega]))
  · exact vk_S.cg hS (fun i hi => by
      show (if _ then _ else _) = _
      iterate 15 rw [if_neg (by omega)]
      rw [if_pos (by omega), show 40 + i - 40 = i by omega]) (fun i hi => by
      show (if _ then _ else _) = _
      iterate 14 rw [if_neg (by omega)]
      rw [if_pos (by omega), show 50 + i - 50 = i by omega])
  · exact va_Zof (hts _ lt_lay_VERBS) (hgood _ mw_20) e0 hA
  · exact va_T.cg hT0 (fun j hj => congrArg Value.ref (by
      show (if _ then _ else _) = _
      iterate 16 rw [if_neg (by omega)]
      rw [if_pos (by omega), show 30 + j - 30 = j by omega]))
  · trivial
  · trivial
  · exact va_Zof (hts _ lt_lay_CS) (hgood _ mw_36) (va_eqi (hnw _ nw_cs)) hA
  · exact vx_Zqof (hts _ lt_lay_US) (hgood _ mw_30) (hnw _ nw_us) hA
  · exact vx_Zqof (hts _ lt_lay_SS) (hgood _ mw_30) (hnw _ nw_ss) hA
  · exact va_Zqof (hts _ lt_lay_SF) (hgood _ mw_38) (hnw _ nw_sf) hA
  · exact vk_R.of (hts _ lt_str0) u0
  · exact vk_R.of (hts _ lt_str1) u1
  · exact vk_R.of (hts _ lt_str2) u2
  · refine ⟨fun w hw => ?_, va_Nc.of (hnw _ nw_c0), va_Nc.of (hnw _ nw_c1), va_Nc.of (hnw _ nw_c2)⟩
    have h1 := hts w (List.mem_filter.mp hw).1
    have h2 := (List.mem_filter.mp hw).2
    cases w <;> first | exact (Cond.onTables_vm (A := #[]) (A' := args) (U := s) (U' := s) s.vm _ rfl).trans h1 | (simp [gFaceW] at h2)
  · show (!(l.flags.contains noTraceFlag)) = false
    rw [hflags]
    decide +kernel
