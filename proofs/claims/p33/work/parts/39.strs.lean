def sLn (i : Nat) : Int := (([4, 5, 4, 4, 4] : List Nat).getD i 0 : Nat)
def sCh (i : Nat) (j : Int) : Int := (([[102, 105, 114, 101], [103, 114, 97, 100, 101], [112, 97, 99, 107], [115, 104, 105, 112], [100, 114, 111, 112]] : List (List Int)).getD i []).getD j.toNat 0
theorem sCh_byte : ∀ i, i < 5 → ∀ j, j < ([4, 5, 4, 4, 4] : List Nat).getD i 0 → (Value.int ((((([[102, 105, 114, 101], [103, 114, 97, 100, 101], [112, 97, 99, 107], [115, 104, 105, 112], [100, 114, 111, 112]] : List (List Int32)).getD i []).getD j 0) &&& Int32.ofInt 255)) = vi ((([[102, 105, 114, 101], [103, 114, 97, 100, 101], [112, 97, 99, 107], [115, 104, 105, 112], [100, 114, 111, 112]] : List (List Int)).getD i []).getD j 0)) := by decide +kernel
theorem sCh_rng : ∀ i, i < 5 → ∀ j, j < ([4, 5, 4, 4, 4] : List Nat).getD i 0 → 0 ≤ ((([[102, 105, 114, 101], [103, 114, 97, 100, 101], [112, 97, 99, 107], [115, 104, 105, 112], [100, 114, 111, 112]] : List (List Int)).getD i []).getD j 0) ∧ ((([[102, 105, 114, 101], [103, 114, 97, 100, 101], [112, 97, 99, 107], [115, 104, 105, 112], [100, 114, 111, 112]] : List (List Int)).getD i []).getD j 0) ≤ 126 := by decide +kernel
section GS5
variable {Y : gEnv} {X : gCtx} {y : MethodName} {cc : ByteArray} {nL : Nat} {ret : Option FieldType} {rm : Room} {po : gPo} {px : gPx} {k n pc : Nat} {L : List (Nat × Value)} {st : List Value} {K N : Nat → Nat} {I : Nat → Nat → Int} {A : Nat → Int → Int} {R : Nat → Nat → Option Nat} {Q : Nat → Int → Option Nat}
theorem g_strValue {idx i : Nat} (hd : decode cc pc = .ok (.getfield idx, 3)) (hw : Cond.fieldLink y.cls idx "java/lang/String" "value" "[B" ∈ lw_good) (hi : i < 5) (kk : gJ Y X y cc nL ret rm po px k n (pc + 3) L (.ref (Y.2.2.1 (50 + i)) :: st) K N I A R Q) : gJ Y X y cc nL ret rm po px k n pc L (.ref (Y.2.2.1 (40 + i)) :: st) K N I A R Q := fun hx H locs ls hW hS hl => 
  vk_getf hx.1 hx.2.1 (hx.2.2.2.2.2.2.2.1.1.2.2.2.1.1 i hi).2.2.1 hS hx.2.2.2.1 (hx.2.2.2.2.1 _ hw) (fun _ h => h) hd (kk hx H locs ls hW hS hl)
theorem g_strCoder {idx i : Nat} (hd : decode cc pc = .ok (.getfield idx, 3)) (hw : Cond.fieldLink y.cls idx "java/lang/String" "coder" "B" ∈ lw_good) (hi : i < 5) (kk : gJ Y X y cc nL ret rm po px k n (pc + 3) L (vi 0 :: st) K N I A R Q) : gJ Y X y cc nL ret rm po px k n pc L (.ref (Y.2.2.1 (40 + i)) :: st) K N I A R Q := fun hx H locs ls hW hS hl => 
  vk_getf hx.1 hx.2.1 (hx.2.2.2.2.2.2.2.1.1.2.2.2.1.1 i hi).2.1 hS hx.2.2.2.1 (hx.2.2.2.2.1 _ hw) (fun _ h => h) hd (kk hx H locs ls hW hS hl)
theorem g_strLen {i : Nat} (hd : decode cc pc = .ok (.arraylength, 1)) (hi : i < 5) (kk : gJ Y X y cc nL ret rm po px k n (pc + 1) L (vi (sLn i) :: st) K N I A R Q) : gJ Y X y cc nL ret rm po px k n pc L (.ref (Y.2.2.1 (50 + i)) :: st) K N I A R Q := fun hx H locs ls hW hS hl => 
  va_tlen hx.1 hx.2.1 (hx.2.2.2.2.2.2.2.1.1.2.2.2.1.1 i hi).2.2.2 hS (v := Int32.ofInt (sLn i)) (Int32.ofInt_eq_ofNat).symm hd (kk hx H locs ls hW hS hl)
theorem g_compact {idx : Nat} (hd : decode cc pc = .ok (.getstatic idx, 3)) (hw : Cond.fieldLink y.cls idx "java/lang/String" "COMPACT_STRINGS" "Z" ∈ lw_good) (kk : gJ Y X y cc nL ret rm po px k n (pc + 3) L (vi 1 :: st) K N I A R Q) : gJ Y X y cc nL ret rm po px k n pc L st K N I A R Q := fun hx H locs ls hW hS hl => 
  va_gets hx.1 hx.2.1 hx.2.2.2.2.2.2.2.1.1.2.2.2.2.2.2.2.2.1 hS hx.2.2.2.1 (hx.2.2.2.2.1 _ hw) (fun _ h => h) hd (kk hx H locs ls hW hS hl)
theorem g_sioobe {idx : Nat} (hd : decode cc pc = .ok (.getstatic idx, 3)) (hw : Cond.fieldLink y.cls idx "jdk/internal/util/Preconditions" "SIOOBE_FORMATTER" "Ljava/util/function/BiFunction;" ∈ lw_good) (kk : ∀ z : Option Nat, gJ Y X y cc nL ret rm po px k n (pc + 3) L (va_rf z :: st) K N I A R Q) : gJ Y X y cc nL ret rm po px k n pc L st K N I A R Q := fun hx H locs ls hW hS hl => 
  (hx.2.2.2.2.2.2.2.1.1.2.2.2.2.2.2.2.2.2.2.2).elim (fun h => va_gets hx.1 hx.2.1 h hS hx.2.2.2.1 (hx.2.2.2.2.1 _ hw) (fun _ h => h) hd (kk none hx H locs ls hW hS hl)) (fun ⟨t, h⟩ => va_gets hx.1 hx.2.1 h hS hx.2.2.2.1 (hx.2.2.2.2.1 _ hw) (fun _ h => h) hd (kk (some t) hx H locs ls hW hS hl))
theorem g_ishr0 {a : Int} (hd : decode cc pc = .ok (.ishr, 1)) (kk : gJ Y X y cc nL ret rm po px k n (pc + 1) L (vi a :: st) K N I A R Q) : gJ Y X y cc nL ret rm po px k n pc L (vi 0 :: vi a :: st) K N I A R Q := fun hx H locs ls hW hS hl => 
  lv_ishr hx.1 hx.2.1 hd (by rw [show (Int32.ofInt a >>> (Int32.ofInt 0 &&& 31)) = Int32.ofInt a by simp]; exact kk hx H locs ls hW hS hl)
theorem g_strByte {i : Nat} {j : Int} (hd : decode cc pc = .ok (.baload, 1)) (hd1 : decode cc (pc + 1) = .ok (.sipush 255, 3)) (hd2 : decode cc (pc + 1 + 3) = .ok (.iand, 1)) (hi : i < 5) (hj : 0 ≤ j ∧ j < sLn i) (kk : gJ Y X y cc nL ret rm po px k n (pc + 1 + 3 + 1) L (vi (sCh i j) :: st) K N I A R Q) : gJ Y X y cc nL ret rm po px k n pc L (vi j :: .ref (Y.2.2.1 (50 + i)) :: st) K N I A R Q := by
  intro hx H locs ls hW hS hl
  have hj1 : j.toNat < ([4, 5, 4, 4, 4] : List Nat).getD i 0 := by have := hj.2; simp only [sLn] at this; omega
  have h5 : ([4, 5, 4, 4, 4] : List Nat).getD i 0 ≤ 5 := by
    have : i = 0 ∨ i = 1 ∨ i = 2 ∨ i = 3 ∨ i = 4 := by omega
    rcases this with e | e | e | e | e <;> rw [e] <;> decide
  refine va_tb hx.1 hx.2.1 (hx.2.2.2.2.2.2.2.1.1.2.2.2.1.1 i hi).2.2.2 hS (i32_in ⟨hj.1, hj.2⟩ (by omega)) rfl hd ?_
  have key : gJ Y X y cc nL ret rm po px k n (pc + 1 + 3) L (vi 255 :: .int ((([[102, 105, 114, 101], [103, 114, 97, 100, 101], [112, 97, 99, 107], [115, 104, 105, 112], [100, 114, 111, 112]] : List (List Int32)).getD i []).getD j.toNat 0) :: st) K N I A R Q := fun hx H locs ls hW hS hl => by
    refine lv_iand hx.1 hx.2.1 hd2 ?_
    have e := sCh_byte i hi j.toNat hj1
    show W _ _ _ _ _ _ _ _ _ _ _ _ _ _ _ (F0 _ _ _ (Value.int _ :: st))
    rw [e]
    exact kk hx H locs ls hW hS hl
  rw [i32_nat (by omega)]
  exact (g_sipush hd1 (by decide) key) hx H locs ls hW hS hl
theorem g_cret {z : Int} (hd : decode cc pc = .ok (.ireturn, 1)) (hr : ret = some .char) (hz : 0 ≤ z ∧ z ≤ 65535) (hk : k ≤ rm.cells) (hn : n ≤ rm.slots) (hp : po (some (vi z)) K N I A R Q) : gJ Y X y cc nL ret rm po px k n pc L [vi z] K N I A R Q := fun hx H locs ls hW hS hl => W.widen hk hn (vx_ret (W.zret (ty := .char) hx.1 hx.2.1 (hr ▸ hx.2.2.2.2.2.2.2.2.2.1) (by have h := i32_char hz; rw [vp_nar_char] at h; exact congrArg Value.int h) (fun t ht _ => g_ret hW hS hp ht) hS.2.2 hd (hlocks := hx.2.2.2.2.2.2.2.2.2.2.1)))
theorem g_bret0 (hd : decode cc pc = .ok (.ireturn, 1)) (hr : ret = some .byte) (hk : k ≤ rm.cells) (hn : n ≤ rm.slots) (hp : po (some (vi 0)) K N I A R Q) : gJ Y X y cc nL ret rm po px k n pc L [vi 0] K N I A R Q := fun hx H locs ls hW hS hl => W.widen hk hn (vx_ret (W.zret (ty := .byte) hx.1 hx.2.1 (hr ▸ hx.2.2.2.2.2.2.2.2.2.1) (by decide) (fun t ht _ => g_ret hW hS hp ht) hS.2.2 hd (hlocks := hx.2.2.2.2.2.2.2.2.2.2.1)))
theorem g_ordinal {idx i : Nat} {v : Int} (hd : decode cc pc = .ok (.getfield idx, 3)) (hw : Cond.fieldLink y.cls idx "java/lang/Enum" "ordinal" "I" ∈ lw_good) (hi : i < 5) (hv : Value.int (([0, 1, 2, 3, 4] : List Int32).getD i 0) = vi v) (kk : gJ Y X y cc nL ret rm po px k n (pc + 3) L (vi v :: st) K N I A R Q) : gJ Y X y cc nL ret rm po px k n pc L (.ref (Y.2.2.1 (30 + i)) :: st) K N I A R Q := fun hx H locs ls hW hS hl => 
  va_getX (ad := fun i => Y.2.2.1 (30 + i)) hx.1 hx.2.1 hx.2.2.2.2.2.2.2.1.1.2.1.2.2.1 hi hS hx.2.2.2.1 (hx.2.2.2.2.1 _ hw) (fun _ h => h) hd (by have h9 := kk hx H locs ls hW hS hl; rw [← hv] at h9; exact h9)
variable {yc : MethodName} {c' : ByteArray} {nL' a idx : Nat} {ret' : Option FieldType} {rm' : Room} {r : Value} {As : List Value} {st0 : List Value}
/-- a method of a String: it changes nothing -/
theorem g_callStr {i : Nat} (hi : i < 5) (hcls : yc.cls = "java/lang/String") (hC : gC Y yc c' nL' ret' rm' (.ref (Y.2.2.1 (40 + i)) :: As) K N I A R Q (g_pu (some r) K N I A R Q) gno) (hu : gUV yc c' nL' ret' a) (hw : Cond.methodLink y.cls idx yc ∈ lw_good) (hd : decode cc pc = .ok (.invokevirtual idx, 3)) (hlen : As.length = a) (hst : st0 = As.reverse ++ .ref (Y.2.2.1 (40 + i)) :: st) (hroom : rm'.frames + 1 ≤ rm.frames ∧ 8 + (nL' + 11) + rm'.locals ≤ rm.locals) (hfit : k + rm'.cells ≤ rm.cells ∧ n + rm'.slots ≤ rm.slots) (hrest : (st.map fun v => v.category).sum ≤ 8)
    (kk : gJ Y X y cc nL ret rm po px (k + rm'.cells) (n + rm'.slots) (pc + 3) L (r :: st) K N I A R Q) : gJ Y X y cc nL ret rm po px k n pc L st0 K N I A R Q := by
  intro hx H locs ls hW hS hl
  obtain ⟨cell, o1, o2, o3, -⟩ := va_O.kept (hx.2.2.2.2.2.2.2.1.1.2.2.2.1.1 i hi).1 hS.2.1
  exact g_after hx hl hS (va_runV (C := yc.cls) (As := As) ⟨hx.1, hx.2.1, hx.2.2.1, hx.2.2.2.1, hx.2.2.2.2.1⟩ (gC_met hC) (cwV a hx.2.2.2.2.1 (lg_wsV (hu.1.1) hw hu.1.2.1 hu.1.2.2.1 hu.1.2.2.2) rfl rfl rfl ⟨rfl, hu.2⟩ hroom) ⟨gIn_blind _, ⟨cell, o1, o2, by rw [hcls]; exact o3⟩, fun U hU hM => ⟨rfl, gIn_at hx hW hS hU hM⟩⟩ rfl hlen hl.1 hst (lv_room hrest) hd hfit) (fun v K' N' I' A' R' Q' h => by
    obtain ⟨h1, h2, h3, h4, h5, h6, h7⟩ := h
    rw [h1, h2, h3, h4, h5, h6, h7]
    exact kk)
end GS5
theorem u_J0_coder : gUV yJ0_coder_7d493 cJ0_coder_7d493 1 (some .byte) 0 := ⟨⟨mw_918, mw_916, mw_917, mw_36⟩, by decide, by decide, by decide +kernel⟩
theorem u_J0_length : gUV yJ0_length_8abf5 cJ0_length_8abf5 1 (some .int) 0 := ⟨⟨mw_914, mw_912, mw_913, mw_36⟩, by decide, by decide, by decide +kernel⟩
theorem u_J0_isLatin1 : gUV yJ0_isLatin1_aae02 cJ0_isLatin1_aae02 1 (some .boolean) 0 := ⟨⟨mw_928, mw_926, mw_927, mw_36⟩, by decide, by decide, by decide +kernel⟩
theorem u_J0_charAt : gUV yJ0_charAt_5068e cJ0_charAt_5068e 2 (some .char) 1 := ⟨⟨mw_924, mw_922, mw_923, mw_36⟩, by decide, by decide, by decide +kernel⟩
theorem u_J1_charAt : gUS yJ1_charAt_3b067 cJ1_charAt_3b067 2 (some .char) 2 := ⟨⟨mw_931, mw_930, mw_37⟩, by decide, by decide, by decide +kernel⟩
theorem u_J0_checkIndex : gUS yJ0_checkIndex_df160 cJ0_checkIndex_df160 2 none 2 := ⟨⟨mw_934, mw_933, mw_36⟩, by decide, by decide, by decide +kernel⟩
theorem u_J3_checkIndex : gUS yJ3_checkIndex_8e157 cJ3_checkIndex_8e157 3 (some .int) 3 := ⟨⟨mw_939, mw_938, mw_38⟩, by decide, by decide, by decide +kernel⟩
set_option maxHeartbeats 1000000 in
set_option maxRecDepth 100000 in
theorem k_J_coder (Y : gEnv) {K N : Nat → Nat} {I : Nat → Nat → Int} {A : Nat → Int → Int} {R : Nat → Nat → Option Nat} {Q : Nat → Int → Option Nat} {i : Nat} (hi : i < 5) : gC Y yJ0_coder_7d493 cJ0_coder_7d493 1 (some .byte) ({ frames := 0, cells := 0, slots := 0, locals := 0 } : Room) [.ref (Y.2.2.1 (40 + i))] K N I A R Q (g_pu (some (vi 0)) K N I A R Q) gno := by
  refine gC_ofF (by decide +kernel) (Nat.le_of_ble_eq_true rfl) (fun X => ?_)
  refine g_compact dJ0_coder_7d493_0 mw_919 ?_
  refine g_if_eq (tgt := 13) dJ0_coder_7d493_3 (by decide) (by omega) (fun c => absurd c (by omega)) (fun _ => ?_)
  refine g_aload_n dJ0_coder_7d493_6 rfl rfl ?_
  refine g_strCoder dJ0_coder_7d493_7 mw_1031 hi ?_
  refine g_goto (tgt := 14) dJ0_coder_7d493_10 (by decide) ?_
  exact g_bret0 dJ0_coder_7d493_14 rfl (by decide) (by decide) (g_pu_i rfl _ _ _ _ _ _)
theorem k_J_isLatin1 (Y : gEnv) {K N : Nat → Nat} {I : Nat → Nat → Int} {A : Nat → Int → Int} {R : Nat → Nat → Option Nat} {Q : Nat → Int → Option Nat} {i : Nat} (hi : i < 5) : gC Y yJ0_isLatin1_aae02 cJ0_isLatin1_aae02 1 (some .boolean) ({ frames := 0, cells := 0, slots := 0, locals := 0 } : Room) [.ref (Y.2.2.1 (40 + i))] K N I A R Q (g_pu (some (vi 1)) K N I A R Q) gno := by
  refine gC_ofF (by decide +kernel) (Nat.le_of_ble_eq_true rfl) (fun X => ?_)
  refine g_compact dJ0_isLatin1_aae02_0 mw_919 ?_
  refine g_if_eq (tgt := 17) dJ0_isLatin1_aae02_3 (by decide) (by omega) (fun c => absurd c (by omega)) (fun _ => ?_)
  refine g_aload_n dJ0_isLatin1_aae02_6 rfl rfl ?_
  refine g_strCoder dJ0_isLatin1_aae02_7 mw_1031 hi ?_
  refine g_if_ne (tgt := 17) dJ0_isLatin1_aae02_10 (by decide) (by omega) (fun c => absurd rfl c) (fun _ => ?_)
  refine g_iconst dJ0_isLatin1_aae02_13 ?_
  refine g_goto (tgt := 18) dJ0_isLatin1_aae02_14 (by decide) ?_
  exact g_zret dJ0_isLatin1_aae02_18 rfl (by omega) (by decide) (by decide) (g_pu_i rfl _ _ _ _ _ _)
theorem k_J_length (Y : gEnv) {K N : Nat → Nat} {I : Nat → Nat → Int} {A : Nat → Int → Int} {R : Nat → Nat → Option Nat} {Q : Nat → Int → Option Nat} {i : Nat} (hi : i < 5) : gC Y yJ0_length_8abf5 cJ0_length_8abf5 1 (some .int) ({ frames := 1, cells := 0, slots := 0, locals := 40 } : Room) [.ref (Y.2.2.1 (40 + i))] K N I A R Q (g_pu (some (vi (sLn i))) K N I A R Q) gno := by
  refine gC_ofF (by decide +kernel) (Nat.le_of_ble_eq_true rfl) (fun X => ?_)
  refine g_aload_n dJ0_length_8abf5_0 rfl rfl ?_
  refine g_strValue dJ0_length_8abf5_1 mw_1030 hi ?_
  refine g_strLen dJ0_length_8abf5_4 hi ?_
  refine g_aload_n dJ0_length_8abf5_5 rfl rfl ?_
  refine g_callStr hi rfl (k_J_coder Y hi) u_J0_coder mw_915 dJ0_length_8abf5_6 rfl rfl ⟨Nat.le_of_ble_eq_true rfl, Nat.le_of_ble_eq_true rfl⟩ ⟨Nat.le_of_ble_eq_true rfl, Nat.le_of_ble_eq_true rfl⟩ (Nat.le_of_ble_eq_true rfl) ?_
  refine g_ishr0 dJ0_length_8abf5_9 ?_
  exact g_iret dJ0_length_8abf5_10 rfl (by decide) (by decide) (g_pu_i rfl _ _ _ _ _ _)
theorem k_J3_check (Y : gEnv) {K N : Nat → Nat} {I : Nat → Nat → Int} {A : Nat → Int → Int} {R : Nat → Nat → Option Nat} {Q : Nat → Int → Option Nat} (a b : Int) (z : Option Nat) (h : 0 ≤ a ∧ a < b ∧ b ≤ 2147483647) : gC Y yJ3_checkIndex_8e157 cJ3_checkIndex_8e157 3 (some .int) ({ frames := 0, cells := 0, slots := 0, locals := 0 } : Room) [vi a, vi b, va_rf z] K N I A R Q (g_pu (some (vi a)) K N I A R Q) gno := by
  refine gC_ofF (by decide +kernel) (by cases z <;> exact Nat.le_of_ble_eq_true rfl) (fun X => ?_)
  refine g_iload_n dJ3_checkIndex_8e157_0 rfl rfl ?_
  refine g_if_lt (tgt := 9) dJ3_checkIndex_8e157_1 (by decide) (by omega) (fun c => absurd c (by omega)) (fun _ => ?_)
  refine g_iload_n dJ3_checkIndex_8e157_4 rfl rfl ?_
  refine g_iload_n dJ3_checkIndex_8e157_5 rfl rfl ?_
  refine g_icmp_lt (tgt := 16) dJ3_checkIndex_8e157_6 (by decide) (by omega) (by omega) (fun _ => ?_) (fun c => absurd c (by omega))
  refine g_iload_n dJ3_checkIndex_8e157_16 rfl rfl ?_
  exact g_iret dJ3_checkIndex_8e157_17 rfl (by decide) (by decide) (g_pu_i rfl _ _ _ _ _ _)
theorem k_J0_check (Y : gEnv) {K N : Nat → Nat} {I : Nat → Nat → Int} {A : Nat → Int → Int} {R : Nat → Nat → Option Nat} {Q : Nat → Int → Option Nat} (a b : Int) (h : 0 ≤ a ∧ a < b ∧ b ≤ 2147483647) : gC Y yJ0_checkIndex_df160 cJ0_checkIndex_df160 2 none ({ frames := 1, cells := 0, slots := 0, locals := 40 } : Room) [vi a, vi b] K N I A R Q (g_wr K N R Q (fun v I' A' => v = none ∧ I' = I ∧ A' = A)) gno := by
  refine gC_ofF (by decide +kernel) (Nat.le_of_ble_eq_true rfl) (fun X => ?_)
  refine g_iload_n dJ0_checkIndex_df160_0 rfl rfl ?_
  refine g_iload_n dJ0_checkIndex_df160_1 rfl rfl ?_
  refine g_sioobe dJ0_checkIndex_df160_2 mw_935 (fun z => ?_)
  refine g_callSOp (k_J3_check Y a b z h) u_J3_checkIndex mw_937 dJ0_checkIndex_df160_5 rfl rfl ⟨Nat.le_of_ble_eq_true rfl, Nat.le_of_ble_eq_true rfl⟩ ⟨Nat.le_of_ble_eq_true rfl, Nat.le_of_ble_eq_true rfl⟩ (Nat.le_of_ble_eq_true rfl) ?_
  refine g_pop dJ0_checkIndex_df160_8 rfl ?_
  exact g_vret dJ0_checkIndex_df160_9 rfl (by decide) (by decide) ⟨rfl, rfl, rfl, rfl, rfl, rfl, rfl⟩
theorem k_J1_charAt (Y : gEnv) {K N : Nat → Nat} {I : Nat → Nat → Int} {A : Nat → Int → Int} {R : Nat → Nat → Option Nat} {Q : Nat → Int → Option Nat} {i : Nat} (hi : i < 5) (j : Int) (hj : 0 ≤ j ∧ j < sLn i) (hl5 : sLn i ≤ 5) (hc : 0 ≤ sCh i j ∧ sCh i j ≤ 126) : gC Y yJ1_charAt_3b067 cJ1_charAt_3b067 2 (some .char) ({ frames := 2, cells := 0, slots := 0, locals := 80 } : Room) [.ref (Y.2.2.1 (50 + i)), vi j] K N I A R Q (g_pu (some (vi (sCh i j))) K N I A R Q) gno := by
  refine gC_ofF (by decide +kernel) (Nat.le_of_ble_eq_true rfl) (fun X => ?_)
  refine g_iload_n dJ1_charAt_3b067_0 rfl rfl ?_
  refine g_aload_n dJ1_charAt_3b067_1 rfl rfl ?_
  refine g_strLen dJ1_charAt_3b067_2 hi ?_
  refine g_callSO (k_J0_check Y j (sLn i) (by omega)) u_J0_checkIndex mw_932 dJ1_charAt_3b067_3 rfl rfl ⟨Nat.le_of_ble_eq_true rfl, Nat.le_of_ble_eq_true rfl⟩ ⟨Nat.le_of_ble_eq_true rfl, Nat.le_of_ble_eq_true rfl⟩ (Nat.le_of_ble_eq_true rfl) (fun v K' N' I' A' R' Q' h => ?_)
  obtain ⟨rfl, rfl, rfl, rfl, rfl, rfl, rfl⟩ := h
  refine g_aload_n dJ1_charAt_3b067_6 rfl rfl ?_
  refine g_iload_n dJ1_charAt_3b067_7 rfl rfl ?_
  refine g_strByte dJ1_charAt_3b067_8 dJ1_charAt_3b067_9 dJ1_charAt_3b067_12 hi hj ?_
  refine g_i2c dJ1_charAt_3b067_13 (by omega) ?_
  exact g_cret dJ1_charAt_3b067_14 rfl (by omega) (by decide) (by decide) (g_pu_i rfl _ _ _ _ _ _)
theorem k_J_charAt (Y : gEnv) {K N : Nat → Nat} {I : Nat → Nat → Int} {A : Nat → Int → Int} {R : Nat → Nat → Option Nat} {Q : Nat → Int → Option Nat} {i : Nat} (hi : i < 5) (j : Int) (hj : 0 ≤ j ∧ j < sLn i) (hl5 : sLn i ≤ 5) (hc : 0 ≤ sCh i j ∧ sCh i j ≤ 126) : gC Y yJ0_charAt_5068e cJ0_charAt_5068e 2 (some .char) ({ frames := 3, cells := 0, slots := 0, locals := 120 } : Room) [.ref (Y.2.2.1 (40 + i)), vi j] K N I A R Q (g_pu (some (vi (sCh i j))) K N I A R Q) gno := by
  refine gC_ofF (by decide +kernel) (Nat.le_of_ble_eq_true rfl) (fun X => ?_)
  refine g_aload_n dJ0_charAt_5068e_0 rfl rfl ?_
  refine g_callStr hi rfl (k_J_isLatin1 Y hi) u_J0_isLatin1 mw_925 dJ0_charAt_5068e_1 rfl rfl ⟨Nat.le_of_ble_eq_true rfl, Nat.le_of_ble_eq_true rfl⟩ ⟨Nat.le_of_ble_eq_true rfl, Nat.le_of_ble_eq_true rfl⟩ (Nat.le_of_ble_eq_true rfl) ?_
  refine g_if_eq (tgt := 16) dJ0_charAt_5068e_4 (by decide) (by omega) (fun c => absurd c (by omega)) (fun _ => ?_)
  refine g_aload_n dJ0_charAt_5068e_7 rfl rfl ?_
  refine g_strValue dJ0_charAt_5068e_8 mw_1030 hi ?_
  refine g_iload_n dJ0_charAt_5068e_11 rfl rfl ?_
  refine g_callSOp (k_J1_charAt Y hi j hj hl5 hc) u_J1_charAt mw_929 dJ0_charAt_5068e_12 rfl rfl ⟨Nat.le_of_ble_eq_true rfl, Nat.le_of_ble_eq_true rfl⟩ ⟨Nat.le_of_ble_eq_true rfl, Nat.le_of_ble_eq_true rfl⟩ (Nat.le_of_ble_eq_true rfl) ?_
  exact g_cret dJ0_charAt_5068e_15 rfl (by omega) (by decide) (by decide) (g_pu_i rfl _ _ _ _ _ _)
