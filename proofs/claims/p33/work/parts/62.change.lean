/-! ===== change: what it answers and makes hangs on the factory's numbers alone ===== -/
theorem tm_range (a : Int) {m : Int} (ha : 0 ≤ a) (hm : 0 < m) : 0 ≤ a.tmod m ∧ a.tmod m < m := ⟨Int.tmod_nonneg m ha, Int.tmod_lt_of_pos _ hm⟩
theorem tq_range (a : Int) {m : Int} (ha : 0 ≤ a) (hm : 0 < m) : 0 ≤ a.tdiv m ∧ a.tdiv m ≤ a := ⟨Int.tdiv_nonneg ha (by omega), by rw [td_pos ha]; exact Int.ediv_le_self _ ha⟩
def pLot (W : Int → Int) (i p : Int) : Int := lqI (if ¬ (0 ≤ i ∧ i < W 1614) then 1 else if ¬ (0 ≤ p ∧ p ≤ 5) then 2 else 0) (W (410 + 160 * p + i)) [-2000001, -2000002, -2000003]
theorem k_P_lot (Y : gEnv) {K N : Nat → Nat} {I : Nat → Nat → Int} {A : Nat → Int → Int} {R : Nat → Nat → Option Nat} {Q : Nat → Int → Option Nat} {G : Nat → Nat × Int} {M : Nat → Prop} {x s h hq sc sg ar : Nat} {W SV T : Int → Int} {n len : Int} (hI : cI K N I A R Q G M x s h hq sc sg ar W n SV T len) (i p : Int) (hi : -2147483648 ≤ i ∧ i ≤ 2147483647) (hp : -2147483648 ≤ p ∧ p ≤ 2147483647) : gCH Y yL_lot cL_lot 4 (some .int) [(0, 6, 7, 15), (0, 6, 11, 18)] ({ frames := 8, cells := 2, slots := 12, locals := 142 } : Room) [.ref x, vi i, vi p] K N I A R Q (lqP K N I A R Q M x s h hq sc sg ar (vi (pLot W i p)) W n SV T len) := k_L_lot Y hI i p (cd2r _ _) (k_A_lot Y hI i hi p hp)
theorem pLot_range {W : Int → Int} (hN : iN W) (i p : Int) (hp : p = 0 ∨ p = 1 ∨ p = 2) : -2000001 ≤ pLot W i p ∧ pLot W i p ≤ 19 := by
  unfold pLot
  by_cases h : 0 ≤ i ∧ i < W 1614
  · rw [if_neg (fun z => z h), if_neg (fun z => z (by omega)), lqI_z]
    obtain ⟨a1, a2, a3, a4, a5, a6, -⟩ := hN.2.2.2.2.1.2.2.1 i h.1 h.2
    rcases hp with e | e | e <;> subst e
    · rw [show (410 + 160 * 0 + i : Int) = 410 + i by omega]; omega
    · rw [show (410 + 160 * 1 + i : Int) = 570 + i by omega]; omega
    · rw [show (410 + 160 * 2 + i : Int) = 730 + i by omega]; omega
  · rw [if_pos h]
    unfold lqI
    rw [if_neg (by decide)]
    decide
set_option maxHeartbeats 4000000 in
set_option maxRecDepth 100000 in
theorem ch_128_0 {W SV T : Int → Int} {n len : Int} (hok : lOk W n SV T len) (hj : jOk W n SV) (hN : iN W) (hn : 0 ≤ n ∧ n ≤ 6) (v more : Int) (hm : -2147483648 ≤ more ∧ more ≤ 2147483647)  : ∃ (r' : Int) (W' : Int → Int) (n' : Int) (SV' : Int → Int), (lOk W' n' SV' T len ∧ jOk W' n' SV') ∧ ∀ (Y : gEnv) (X : gCtx) (K N : Nat → Nat) (I : Nat → Nat → Int) (A : Nat → Int → Int) (R : Nat → Nat → Option Nat) (Q : Nat → Int → Option Nat) (G : Nat → Nat × Int) (M : Nat → Prop) (x s h hq sc sg ar : Nat), cI K N I A R Q G M x s h hq sc sg ar W n SV T len → gJ Y X yL_change cL_change 6 (some .int) ({ frames := 10, cells := 336, slots := 2100, locals := 238 } : Room) (lqP K N I A R Q M x s h hq sc sg ar (vi r') W' n' SV' T len) gno 0 0 128 [(5, vi (sLow (more.tdiv 32) 100)), (4, vi (sLow (more.tdiv 4) 8)), (3, vi (sLow more 4)), (0, .ref x), (1, vi v), (2, vi more)] [] K N I A R Q := by
  have e_0 := sLow_range more (m := 4) (by decide)
  have e_1 := sLow_range (more.tdiv 4) (m := 8) (by decide)
  have e_2 := sLow_range (more.tdiv 32) (m := 100) (by decide)
  have e_3 := sLow_range (more.tdiv 4) (m := 21) (by decide)
  have e_4 := sLow_range (more.tdiv 84) (m := 22) (by decide)
  obtain ⟨r', W', n', SV', hw, ho⟩ := o_setGlaze hok hj hN hn (sLow more 4) (sLow (more.tdiv 4) 21) (sLow (more.tdiv 84) 22) (by omega) (by omega) (by omega)
  refine ⟨r', W', n', SV', hw, fun Y X K N I A R Q G M x s h hq sc sg ar hI => ?_⟩
  refine g_aload_n dL_change_128 rfl rfl ?_
  refine g_iload_n dL_change_129 rfl rfl ?_
  refine g_iload_n dL_change_130 rfl rfl ?_
  refine g_iconst dL_change_131 ?_
  refine g_idiv dL_change_132 (by omega) (by omega) (by omega) ?_
  refine g_bipush dL_change_133 (by decide) ?_
  refine g_callSp (k_low Y _ _ ⟨by decide, by decide⟩) u_L_low mw_317 rfl dL_change_135 rfl rfl ⟨Nat.le_of_ble_eq_true rfl, Nat.le_of_ble_eq_true rfl⟩ ⟨Nat.le_of_ble_eq_true rfl, Nat.le_of_ble_eq_true rfl⟩ (Nat.le_of_ble_eq_true rfl) ?_
  refine g_iload_n dL_change_138 rfl rfl ?_
  refine g_bipush dL_change_139 (by decide) ?_
  refine g_idiv dL_change_141 (by omega) (by omega) (by omega) ?_
  refine g_bipush dL_change_142 (by decide) ?_
  refine g_callSp (k_low Y _ _ ⟨by decide, by decide⟩) u_L_low mw_317 rfl dL_change_144 rfl rfl ⟨Nat.le_of_ble_eq_true rfl, Nat.le_of_ble_eq_true rfl⟩ ⟨Nat.le_of_ble_eq_true rfl, Nat.le_of_ble_eq_true rfl⟩ (Nat.le_of_ble_eq_true rfl) ?_
  refine g_callH (ho Y K N I A R Q G M x s h hq sc sg ar hI) u_L_setGlaze mw_321 dL_change_147 rfl rfl ⟨Nat.le_of_ble_eq_true rfl, Nat.le_of_ble_eq_true rfl⟩ ⟨Nat.le_of_ble_eq_true rfl, Nat.le_of_ble_eq_true rfl⟩ (Nat.le_of_ble_eq_true rfl) (fun v1 K1 N1 I1 A1 R1 Q1 hp1 => ?_)
  obtain ⟨rfl, G1, hI1, hf1⟩ := hp1
  exact g_iret dL_change_150 rfl (by decide) (by decide) ⟨rfl, G1, hI1, hf1⟩
set_option maxHeartbeats 4000000 in
set_option maxRecDepth 100000 in
theorem ch_151_0 {W SV T : Int → Int} {n len : Int} (hok : lOk W n SV T len) (hj : jOk W n SV) (hN : iN W) (hn : 0 ≤ n ∧ n ≤ 6) (v more : Int) (hm : -2147483648 ≤ more ∧ more ≤ 2147483647)  : ∃ (r' : Int) (W' : Int → Int) (n' : Int) (SV' : Int → Int), (lOk W' n' SV' T len ∧ jOk W' n' SV') ∧ ∀ (Y : gEnv) (X : gCtx) (K N : Nat → Nat) (I : Nat → Nat → Int) (A : Nat → Int → Int) (R : Nat → Nat → Option Nat) (Q : Nat → Int → Option Nat) (G : Nat → Nat × Int) (M : Nat → Prop) (x s h hq sc sg ar : Nat), cI K N I A R Q G M x s h hq sc sg ar W n SV T len → gJ Y X yL_change cL_change 6 (some .int) ({ frames := 10, cells := 336, slots := 2100, locals := 238 } : Room) (lqP K N I A R Q M x s h hq sc sg ar (vi r') W' n' SV' T len) gno 0 0 151 [(5, vi (sLow (more.tdiv 32) 100)), (4, vi (sLow (more.tdiv 4) 8)), (3, vi (sLow more 4)), (0, .ref x), (1, vi v), (2, vi more)] [] K N I A R Q := by
  have e_0 := sLow_range more (m := 4) (by decide)
  have e_1 := sLow_range (more.tdiv 4) (m := 8) (by decide)
  have e_2 := sLow_range (more.tdiv 32) (m := 100) (by decide)
  have e_3 := sLow_range (more.tdiv 99) (m := 10001) (by decide)
  obtain ⟨r', W', n', SV', hw, ho⟩ := o_setQuality hok hj hN hn (sLow more 4) ((sLow (more.tdiv 32) 100) + (sLow (more.tdiv 4) 8)) (sLow (more.tdiv 99) 10001) (by omega) (by omega) (by omega)
  refine ⟨r', W', n', SV', hw, fun Y X K N I A R Q G M x s h hq sc sg ar hI => ?_⟩
  refine g_aload_n dL_change_151 rfl rfl ?_
  refine g_iload_n dL_change_152 rfl rfl ?_
  refine g_iload dL_change_153 rfl ?_
  refine g_iload dL_change_155 rfl ?_
  refine g_iadd dL_change_157 ?_
  refine g_iload_n dL_change_158 rfl rfl ?_
  refine g_bipush dL_change_159 (by decide) ?_
  refine g_idiv dL_change_161 (by omega) (by omega) (by omega) ?_
  refine g_sipush dL_change_162 (by decide) ?_
  refine g_callSp (k_low Y _ _ ⟨by decide, by decide⟩) u_L_low mw_317 rfl dL_change_165 rfl rfl ⟨Nat.le_of_ble_eq_true rfl, Nat.le_of_ble_eq_true rfl⟩ ⟨Nat.le_of_ble_eq_true rfl, Nat.le_of_ble_eq_true rfl⟩ (Nat.le_of_ble_eq_true rfl) ?_
  refine g_callH (ho Y K N I A R Q G M x s h hq sc sg ar hI) u_L_setQuality mw_468 dL_change_168 rfl rfl ⟨Nat.le_of_ble_eq_true rfl, Nat.le_of_ble_eq_true rfl⟩ ⟨Nat.le_of_ble_eq_true rfl, Nat.le_of_ble_eq_true rfl⟩ (Nat.le_of_ble_eq_true rfl) (fun v1 K1 N1 I1 A1 R1 Q1 hp1 => ?_)
  obtain ⟨rfl, G1, hI1, hf1⟩ := hp1
  exact g_iret dL_change_171 rfl (by decide) (by decide) ⟨rfl, G1, hI1, hf1⟩
set_option maxHeartbeats 4000000 in
set_option maxRecDepth 100000 in
theorem ch_172_0 {W SV T : Int → Int} {n len : Int} (hok : lOk W n SV T len) (hj : jOk W n SV) (hN : iN W) (hn : 0 ≤ n ∧ n ≤ 6) (v more : Int) (hm : -2147483648 ≤ more ∧ more ≤ 2147483647) (z_196 : ¬ (sLow (more.tdiv 99) 4) = 0) : ∃ (r' : Int) (W' : Int → Int) (n' : Int) (SV' : Int → Int), (lOk W' n' SV' T len ∧ jOk W' n' SV') ∧ ∀ (Y : gEnv) (X : gCtx) (K N : Nat → Nat) (I : Nat → Nat → Int) (A : Nat → Int → Int) (R : Nat → Nat → Option Nat) (Q : Nat → Int → Option Nat) (G : Nat → Nat × Int) (M : Nat → Prop) (x s h hq sc sg ar : Nat), cI K N I A R Q G M x s h hq sc sg ar W n SV T len → gJ Y X yL_change cL_change 6 (some .int) ({ frames := 10, cells := 336, slots := 2100, locals := 238 } : Room) (lqP K N I A R Q M x s h hq sc sg ar (vi r') W' n' SV' T len) gno 0 0 172 [(5, vi (sLow (more.tdiv 32) 100)), (4, vi (sLow (more.tdiv 4) 8)), (3, vi (sLow more 4)), (0, .ref x), (1, vi v), (2, vi more)] [] K N I A R Q := by
  have e_0 := sLow_range more (m := 4) (by decide)
  have e_1 := sLow_range (more.tdiv 4) (m := 8) (by decide)
  have e_2 := sLow_range (more.tdiv 32) (m := 100) (by decide)
  have e_3 := sLow_range (more.tdiv 32) (m := 82) (by decide)
  have e_4 := sLow_range (more.tdiv 99) (m := 4) (by decide)
  have e_5 := tq_range (sLow (more.tdiv 32) 100) (m := 4) (by omega) (by decide)
  obtain ⟨r', W', n', SV', hw, ho⟩ := o_setPosition hok hj hN hn (sLow more 4) (sLow (more.tdiv 4) 8) ((sLow (more.tdiv 32) 82) - 41) ((sLow (more.tdiv 32) 100).tdiv 4) (by omega) (by omega) (by omega) (by omega)
  refine ⟨r', W', n', SV', hw, fun Y X K N I A R Q G M x s h hq sc sg ar hI => ?_⟩
  refine g_aload_n dL_change_172 rfl rfl ?_
  refine g_iload_n dL_change_173 rfl rfl ?_
  refine g_iload dL_change_174 rfl ?_
  refine g_iload_n dL_change_176 rfl rfl ?_
  refine g_bipush dL_change_177 (by decide) ?_
  refine g_idiv dL_change_179 (by omega) (by omega) (by omega) ?_
  refine g_bipush dL_change_180 (by decide) ?_
  refine g_callSp (k_low Y _ _ ⟨by decide, by decide⟩) u_L_low mw_317 rfl dL_change_182 rfl rfl ⟨Nat.le_of_ble_eq_true rfl, Nat.le_of_ble_eq_true rfl⟩ ⟨Nat.le_of_ble_eq_true rfl, Nat.le_of_ble_eq_true rfl⟩ (Nat.le_of_ble_eq_true rfl) ?_
  refine g_bipush dL_change_185 (by decide) ?_
  refine g_isub dL_change_187 ?_
  refine g_iload_n dL_change_188 rfl rfl ?_
  refine g_bipush dL_change_189 (by decide) ?_
  refine g_idiv dL_change_191 (by omega) (by omega) (by omega) ?_
  refine g_iconst dL_change_192 ?_
  refine g_callSp (k_low Y _ _ ⟨by decide, by decide⟩) u_L_low mw_317 rfl dL_change_193 rfl rfl ⟨Nat.le_of_ble_eq_true rfl, Nat.le_of_ble_eq_true rfl⟩ ⟨Nat.le_of_ble_eq_true rfl, Nat.le_of_ble_eq_true rfl⟩ (Nat.le_of_ble_eq_true rfl) ?_
  refine g_if_ne (tgt := 206) dL_change_196 (by decide) (by omega) (fun c_196 => ?_) (fun c_196 => ?_)
  rotate_left
  · exact (show False by omega).elim
  refine g_iload dL_change_206 rfl ?_
  refine g_iconst dL_change_208 ?_
  refine g_idiv dL_change_209 (by omega) (by omega) (by omega) ?_
  refine g_callH (ho Y K N I A R Q G M x s h hq sc sg ar hI) u_L_setPosition mw_478 dL_change_210 rfl rfl ⟨Nat.le_of_ble_eq_true rfl, Nat.le_of_ble_eq_true rfl⟩ ⟨Nat.le_of_ble_eq_true rfl, Nat.le_of_ble_eq_true rfl⟩ (Nat.le_of_ble_eq_true rfl) (fun v1 K1 N1 I1 A1 R1 Q1 hp1 => ?_)
  obtain ⟨rfl, G1, hI1, hf1⟩ := hp1
  exact g_iret dL_change_213 rfl (by decide) (by decide) ⟨rfl, G1, hI1, hf1⟩
set_option maxHeartbeats 4000000 in
set_option maxRecDepth 100000 in
theorem ch_172_1 {W SV T : Int → Int} {n len : Int} (hok : lOk W n SV T len) (hj : jOk W n SV) (hN : iN W) (hn : 0 ≤ n ∧ n ≤ 6) (v more : Int) (hm : -2147483648 ≤ more ∧ more ≤ 2147483647) (z_196 : (sLow (more.tdiv 99) 4) = 0) : ∃ (r' : Int) (W' : Int → Int) (n' : Int) (SV' : Int → Int), (lOk W' n' SV' T len ∧ jOk W' n' SV') ∧ ∀ (Y : gEnv) (X : gCtx) (K N : Nat → Nat) (I : Nat → Nat → Int) (A : Nat → Int → Int) (R : Nat → Nat → Option Nat) (Q : Nat → Int → Option Nat) (G : Nat → Nat × Int) (M : Nat → Prop) (x s h hq sc sg ar : Nat), cI K N I A R Q G M x s h hq sc sg ar W n SV T len → gJ Y X yL_change cL_change 6 (some .int) ({ frames := 10, cells := 336, slots := 2100, locals := 238 } : Room) (lqP K N I A R Q M x s h hq sc sg ar (vi r') W' n' SV' T len) gno 0 0 172 [(5, vi (sLow (more.tdiv 32) 100)), (4, vi (sLow (more.tdiv 4) 8)), (3, vi (sLow more 4)), (0, .ref x), (1, vi v), (2, vi more)] [] K N I A R Q := by
  have e_0 := sLow_range more (m := 4) (by decide)
  have e_1 := sLow_range (more.tdiv 4) (m := 8) (by decide)
  have e_2 := sLow_range (more.tdiv 32) (m := 100) (by decide)
  have e_3 := sLow_range (more.tdiv 32) (m := 82) (by decide)
  have e_4 := sLow_range (more.tdiv 99) (m := 4) (by decide)
  obtain ⟨r', W', n', SV', hw, ho⟩ := o_setPosition hok hj hN hn (sLow more 4) (sLow (more.tdiv 4) 8) ((sLow (more.tdiv 32) 82) - 41) ((sLow (more.tdiv 32) 100) + 2) (by omega) (by omega) (by omega) (by omega)
  refine ⟨r', W', n', SV', hw, fun Y X K N I A R Q G M x s h hq sc sg ar hI => ?_⟩
  refine g_aload_n dL_change_172 rfl rfl ?_
  refine g_iload_n dL_change_173 rfl rfl ?_
  refine g_iload dL_change_174 rfl ?_
  refine g_iload_n dL_change_176 rfl rfl ?_
  refine g_bipush dL_change_177 (by decide) ?_
  refine g_idiv dL_change_179 (by omega) (by omega) (by omega) ?_
  refine g_bipush dL_change_180 (by decide) ?_
  refine g_callSp (k_low Y _ _ ⟨by decide, by decide⟩) u_L_low mw_317 rfl dL_change_182 rfl rfl ⟨Nat.le_of_ble_eq_true rfl, Nat.le_of_ble_eq_true rfl⟩ ⟨Nat.le_of_ble_eq_true rfl, Nat.le_of_ble_eq_true rfl⟩ (Nat.le_of_ble_eq_true rfl) ?_
  refine g_bipush dL_change_185 (by decide) ?_
  refine g_isub dL_change_187 ?_
  refine g_iload_n dL_change_188 rfl rfl ?_
  refine g_bipush dL_change_189 (by decide) ?_
  refine g_idiv dL_change_191 (by omega) (by omega) (by omega) ?_
  refine g_iconst dL_change_192 ?_
  refine g_callSp (k_low Y _ _ ⟨by decide, by decide⟩) u_L_low mw_317 rfl dL_change_193 rfl rfl ⟨Nat.le_of_ble_eq_true rfl, Nat.le_of_ble_eq_true rfl⟩ ⟨Nat.le_of_ble_eq_true rfl, Nat.le_of_ble_eq_true rfl⟩ (Nat.le_of_ble_eq_true rfl) ?_
  refine g_if_ne (tgt := 206) dL_change_196 (by decide) (by omega) (fun c_196 => ?_) (fun c_196 => ?_)
  · exact (show False by omega).elim
  refine g_iload dL_change_199 rfl ?_
  refine g_iconst dL_change_201 ?_
  refine g_iadd dL_change_202 ?_
  refine g_goto (tgt := 210) dL_change_203 (by decide) ?_
  refine g_callH (ho Y K N I A R Q G M x s h hq sc sg ar hI) u_L_setPosition mw_478 dL_change_210 rfl rfl ⟨Nat.le_of_ble_eq_true rfl, Nat.le_of_ble_eq_true rfl⟩ ⟨Nat.le_of_ble_eq_true rfl, Nat.le_of_ble_eq_true rfl⟩ (Nat.le_of_ble_eq_true rfl) (fun v1 K1 N1 I1 A1 R1 Q1 hp1 => ?_)
  obtain ⟨rfl, G1, hI1, hf1⟩ := hp1
  exact g_iret dL_change_213 rfl (by decide) (by decide) ⟨rfl, G1, hI1, hf1⟩
set_option maxHeartbeats 4000000 in
set_option maxRecDepth 100000 in
theorem ch_214_0 {W SV T : Int → Int} {n len : Int} (hok : lOk W n SV T len) (hj : jOk W n SV) (hN : iN W) (hn : 0 ≤ n ∧ n ≤ 6) (v more : Int) (hm : -2147483648 ≤ more ∧ more ≤ 2147483647)  : ∃ (r' : Int) (W' : Int → Int) (n' : Int) (SV' : Int → Int), (lOk W' n' SV' T len ∧ jOk W' n' SV') ∧ ∀ (Y : gEnv) (X : gCtx) (K N : Nat → Nat) (I : Nat → Nat → Int) (A : Nat → Int → Int) (R : Nat → Nat → Option Nat) (Q : Nat → Int → Option Nat) (G : Nat → Nat × Int) (M : Nat → Prop) (x s h hq sc sg ar : Nat), cI K N I A R Q G M x s h hq sc sg ar W n SV T len → gJ Y X yL_change cL_change 6 (some .int) ({ frames := 10, cells := 336, slots := 2100, locals := 238 } : Room) (lqP K N I A R Q M x s h hq sc sg ar (vi r') W' n' SV' T len) gno 0 0 214 [(5, vi (sLow (more.tdiv 32) 100)), (4, vi (sLow (more.tdiv 4) 8)), (3, vi (sLow more 4)), (0, .ref x), (1, vi v), (2, vi more)] [] K N I A R Q := by
  have e_0 := sLow_range more (m := 4) (by decide)
  have e_1 := sLow_range (more.tdiv 4) (m := 8) (by decide)
  have e_2 := sLow_range (more.tdiv 32) (m := 100) (by decide)
  obtain ⟨r', W', n', SV', hw, ho⟩ := o_setSharpness hok hj hN hn ((sLow (more.tdiv 32) 100) + 2) (by omega)
  refine ⟨r', W', n', SV', hw, fun Y X K N I A R Q G M x s h hq sc sg ar hI => ?_⟩
  refine g_aload_n dL_change_214 rfl rfl ?_
  refine g_iload dL_change_215 rfl ?_
  refine g_iconst dL_change_217 ?_
  refine g_iadd dL_change_218 ?_
  refine g_callH (ho Y K N I A R Q G M x s h hq sc sg ar hI) u_L_setSharpness mw_491 dL_change_219 rfl rfl ⟨Nat.le_of_ble_eq_true rfl, Nat.le_of_ble_eq_true rfl⟩ ⟨Nat.le_of_ble_eq_true rfl, Nat.le_of_ble_eq_true rfl⟩ (Nat.le_of_ble_eq_true rfl) (fun v1 K1 N1 I1 A1 R1 Q1 hp1 => ?_)
  obtain ⟨rfl, G1, hI1, hf1⟩ := hp1
  exact g_iret dL_change_222 rfl (by decide) (by decide) ⟨rfl, G1, hI1, hf1⟩
set_option maxHeartbeats 4000000 in
set_option maxRecDepth 100000 in
theorem ch_223_0 {W SV T : Int → Int} {n len : Int} (hok : lOk W n SV T len) (hj : jOk W n SV) (hN : iN W) (hn : 0 ≤ n ∧ n ≤ 6) (v more : Int) (hm : -2147483648 ≤ more ∧ more ≤ 2147483647)  : ∃ (r' : Int) (W' : Int → Int) (n' : Int) (SV' : Int → Int), (lOk W' n' SV' T len ∧ jOk W' n' SV') ∧ ∀ (Y : gEnv) (X : gCtx) (K N : Nat → Nat) (I : Nat → Nat → Int) (A : Nat → Int → Int) (R : Nat → Nat → Option Nat) (Q : Nat → Int → Option Nat) (G : Nat → Nat × Int) (M : Nat → Prop) (x s h hq sc sg ar : Nat), cI K N I A R Q G M x s h hq sc sg ar W n SV T len → gJ Y X yL_change cL_change 6 (some .int) ({ frames := 10, cells := 336, slots := 2100, locals := 238 } : Room) (lqP K N I A R Q M x s h hq sc sg ar (vi r') W' n' SV' T len) gno 0 0 223 [(5, vi (sLow (more.tdiv 32) 100)), (4, vi (sLow (more.tdiv 4) 8)), (3, vi (sLow more 4)), (0, .ref x), (1, vi v), (2, vi more)] [] K N I A R Q := by
  have e_0 := sLow_range more (m := 4) (by decide)
  have e_1 := sLow_range (more.tdiv 4) (m := 8) (by decide)
  have e_2 := sLow_range (more.tdiv 32) (m := 100) (by decide)
  have e_3 := sLow_range more (m := 52) (by decide)
  obtain ⟨r', W', n', SV', hw, ho⟩ := o_setBoxSize hok hj hN hn (sLow more 52) (by omega)
  refine ⟨r', W', n', SV', hw, fun Y X K N I A R Q G M x s h hq sc sg ar hI => ?_⟩
  refine g_aload_n dL_change_223 rfl rfl ?_
  refine g_iload_n dL_change_224 rfl rfl ?_
  refine g_bipush dL_change_225 (by decide) ?_
  refine g_callSp (k_low Y _ _ ⟨by decide, by decide⟩) u_L_low mw_317 rfl dL_change_227 rfl rfl ⟨Nat.le_of_ble_eq_true rfl, Nat.le_of_ble_eq_true rfl⟩ ⟨Nat.le_of_ble_eq_true rfl, Nat.le_of_ble_eq_true rfl⟩ (Nat.le_of_ble_eq_true rfl) ?_
  refine g_callH (ho Y K N I A R Q G M x s h hq sc sg ar hI) u_L_setBoxSize mw_498 dL_change_230 rfl rfl ⟨Nat.le_of_ble_eq_true rfl, Nat.le_of_ble_eq_true rfl⟩ ⟨Nat.le_of_ble_eq_true rfl, Nat.le_of_ble_eq_true rfl⟩ (Nat.le_of_ble_eq_true rfl) (fun v1 K1 N1 I1 A1 R1 Q1 hp1 => ?_)
  obtain ⟨rfl, G1, hI1, hf1⟩ := hp1
  exact g_iret dL_change_233 rfl (by decide) (by decide) ⟨rfl, G1, hI1, hf1⟩
set_option maxHeartbeats 4000000 in
set_option maxRecDepth 100000 in
theorem ch_234_0 {W SV T : Int → Int} {n len : Int} (hok : lOk W n SV T len) (hj : jOk W n SV) (hN : iN W) (hn : 0 ≤ n ∧ n ≤ 6) (v more : Int) (hm : -2147483648 ≤ more ∧ more ≤ 2147483647) (z_241 : ¬ (sLow more 9) = 0) (z_258 : ¬ (sLow (more.tdiv 3) 5) = 0) : ∃ (r' : Int) (W' : Int → Int) (n' : Int) (SV' : Int → Int), (lOk W' n' SV' T len ∧ jOk W' n' SV') ∧ ∀ (Y : gEnv) (X : gCtx) (K N : Nat → Nat) (I : Nat → Nat → Int) (A : Nat → Int → Int) (R : Nat → Nat → Option Nat) (Q : Nat → Int → Option Nat) (G : Nat → Nat × Int) (M : Nat → Prop) (x s h hq sc sg ar : Nat), cI K N I A R Q G M x s h hq sc sg ar W n SV T len → gJ Y X yL_change cL_change 6 (some .int) ({ frames := 10, cells := 336, slots := 2100, locals := 238 } : Room) (lqP K N I A R Q M x s h hq sc sg ar (vi r') W' n' SV' T len) gno 0 0 234 [(5, vi (sLow (more.tdiv 32) 100)), (4, vi (sLow (more.tdiv 4) 8)), (3, vi (sLow more 4)), (0, .ref x), (1, vi v), (2, vi more)] [] K N I A R Q := by
  have e_0 := sLow_range more (m := 4) (by decide)
  have e_1 := sLow_range (more.tdiv 4) (m := 8) (by decide)
  have e_2 := sLow_range (more.tdiv 32) (m := 100) (by decide)
  have e_3 := sLow_range more (m := 9) (by decide)
  have e_4 := tm_range (sLow more 4) (m := 3) (by omega) (by decide)
  have e_5 := sLow_range (more.tdiv 3) (m := 5) (by decide)
  have e_6 := tm_range (sLow (more.tdiv 4) 8) (m := 4) (by omega) (by decide)
  have e_7 := sLow_range (more.tdiv 9) (m := 101) (by decide)
  obtain ⟨r', W', n', SV', hw, ho⟩ := o_fire hok hj hN hn ((sLow more 4).tmod 3) ((sLow (more.tdiv 4) 8).tmod 4) ((900 + (2 * (sLow (more.tdiv 32) 100))) + (20 * (sLow (more.tdiv 4) 8))) (1 + (sLow (more.tdiv 9) 101)) (by omega) (by omega) (by omega) (by omega)
  refine ⟨r', W', n', SV', hw, fun Y X K N I A R Q G M x s h hq sc sg ar hI => ?_⟩
  refine g_aload_n dL_change_234 rfl rfl ?_
  refine g_iload_n dL_change_235 rfl rfl ?_
  refine g_bipush dL_change_236 (by decide) ?_
  refine g_callSp (k_low Y _ _ ⟨by decide, by decide⟩) u_L_low mw_317 rfl dL_change_238 rfl rfl ⟨Nat.le_of_ble_eq_true rfl, Nat.le_of_ble_eq_true rfl⟩ ⟨Nat.le_of_ble_eq_true rfl, Nat.le_of_ble_eq_true rfl⟩ (Nat.le_of_ble_eq_true rfl) ?_
  refine g_if_ne (tgt := 248) dL_change_241 (by decide) (by omega) (fun c_241 => ?_) (fun c_241 => ?_)
  rotate_left
  · exact (show False by omega).elim
  refine g_iload_n dL_change_248 rfl rfl ?_
  refine g_iconst dL_change_249 ?_
  refine g_irem dL_change_250 (by omega) (by omega) (by omega) ?_
  refine g_iload_n dL_change_251 rfl rfl ?_
  refine g_iconst dL_change_252 ?_
  refine g_idiv dL_change_253 (by omega) (by omega) (by omega) ?_
  refine g_iconst dL_change_254 ?_
  refine g_callSp (k_low Y _ _ ⟨by decide, by decide⟩) u_L_low mw_317 rfl dL_change_255 rfl rfl ⟨Nat.le_of_ble_eq_true rfl, Nat.le_of_ble_eq_true rfl⟩ ⟨Nat.le_of_ble_eq_true rfl, Nat.le_of_ble_eq_true rfl⟩ (Nat.le_of_ble_eq_true rfl) ?_
  refine g_if_ne (tgt := 265) dL_change_258 (by decide) (by omega) (fun c_258 => ?_) (fun c_258 => ?_)
  rotate_left
  · exact (show False by omega).elim
  refine g_iload dL_change_265 rfl ?_
  refine g_iconst dL_change_267 ?_
  refine g_irem dL_change_268 (by omega) (by omega) (by omega) ?_
  refine g_sipush dL_change_269 (by decide) ?_
  refine g_iconst dL_change_272 ?_
  refine g_iload dL_change_273 rfl ?_
  refine g_imul dL_change_275 ?_
  refine g_iadd dL_change_276 ?_
  refine g_bipush dL_change_277 (by decide) ?_
  refine g_iload dL_change_279 rfl ?_
  refine g_imul dL_change_281 ?_
  refine g_iadd dL_change_282 ?_
  refine g_iconst dL_change_283 ?_
  refine g_iload_n dL_change_284 rfl rfl ?_
  refine g_bipush dL_change_285 (by decide) ?_
  refine g_idiv dL_change_287 (by omega) (by omega) (by omega) ?_
  refine g_bipush dL_change_288 (by decide) ?_
  refine g_callSp (k_low Y _ _ ⟨by decide, by decide⟩) u_L_low mw_317 rfl dL_change_290 rfl rfl ⟨Nat.le_of_ble_eq_true rfl, Nat.le_of_ble_eq_true rfl⟩ ⟨Nat.le_of_ble_eq_true rfl, Nat.le_of_ble_eq_true rfl⟩ (Nat.le_of_ble_eq_true rfl) ?_
  refine g_iadd dL_change_293 ?_
  refine g_callH (ho Y K N I A R Q G M x s h hq sc sg ar hI) u_L_fire mw_534 dL_change_294 rfl rfl ⟨Nat.le_of_ble_eq_true rfl, Nat.le_of_ble_eq_true rfl⟩ ⟨Nat.le_of_ble_eq_true rfl, Nat.le_of_ble_eq_true rfl⟩ (Nat.le_of_ble_eq_true rfl) (fun v1 K1 N1 I1 A1 R1 Q1 hp1 => ?_)
  obtain ⟨rfl, G1, hI1, hf1⟩ := hp1
  exact g_iret dL_change_297 rfl (by decide) (by decide) ⟨rfl, G1, hI1, hf1⟩
set_option maxHeartbeats 4000000 in
set_option maxRecDepth 100000 in
theorem ch_234_1 {W SV T : Int → Int} {n len : Int} (hok : lOk W n SV T len) (hj : jOk W n SV) (hN : iN W) (hn : 0 ≤ n ∧ n ≤ 6) (v more : Int) (hm : -2147483648 ≤ more ∧ more ≤ 2147483647) (z_241 : ¬ (sLow more 9) = 0) (z_258 : (sLow (more.tdiv 3) 5) = 0) : ∃ (r' : Int) (W' : Int → Int) (n' : Int) (SV' : Int → Int), (lOk W' n' SV' T len ∧ jOk W' n' SV') ∧ ∀ (Y : gEnv) (X : gCtx) (K N : Nat → Nat) (I : Nat → Nat → Int) (A : Nat → Int → Int) (R : Nat → Nat → Option Nat) (Q : Nat → Int → Option Nat) (G : Nat → Nat × Int) (M : Nat → Prop) (x s h hq sc sg ar : Nat), cI K N I A R Q G M x s h hq sc sg ar W n SV T len → gJ Y X yL_change cL_change 6 (some .int) ({ frames := 10, cells := 336, slots := 2100, locals := 238 } : Room) (lqP K N I A R Q M x s h hq sc sg ar (vi r') W' n' SV' T len) gno 0 0 234 [(5, vi (sLow (more.tdiv 32) 100)), (4, vi (sLow (more.tdiv 4) 8)), (3, vi (sLow more 4)), (0, .ref x), (1, vi v), (2, vi more)] [] K N I A R Q := by
  have e_0 := sLow_range more (m := 4) (by decide)
  have e_1 := sLow_range (more.tdiv 4) (m := 8) (by decide)
  have e_2 := sLow_range (more.tdiv 32) (m := 100) (by decide)
  have e_3 := sLow_range more (m := 9) (by decide)
  have e_4 := tm_range (sLow more 4) (m := 3) (by omega) (by decide)
  have e_5 := sLow_range (more.tdiv 3) (m := 5) (by decide)
  have e_6 := sLow_range (more.tdiv 9) (m := 101) (by decide)
  obtain ⟨r', W', n', SV', hw, ho⟩ := o_fire hok hj hN hn ((sLow more 4).tmod 3) 4 ((900 + (2 * (sLow (more.tdiv 32) 100))) + (20 * (sLow (more.tdiv 4) 8))) (1 + (sLow (more.tdiv 9) 101)) (by omega) (by omega) (by omega) (by omega)
  refine ⟨r', W', n', SV', hw, fun Y X K N I A R Q G M x s h hq sc sg ar hI => ?_⟩
  refine g_aload_n dL_change_234 rfl rfl ?_
  refine g_iload_n dL_change_235 rfl rfl ?_
  refine g_bipush dL_change_236 (by decide) ?_
  refine g_callSp (k_low Y _ _ ⟨by decide, by decide⟩) u_L_low mw_317 rfl dL_change_238 rfl rfl ⟨Nat.le_of_ble_eq_true rfl, Nat.le_of_ble_eq_true rfl⟩ ⟨Nat.le_of_ble_eq_true rfl, Nat.le_of_ble_eq_true rfl⟩ (Nat.le_of_ble_eq_true rfl) ?_
  refine g_if_ne (tgt := 248) dL_change_241 (by decide) (by omega) (fun c_241 => ?_) (fun c_241 => ?_)
  rotate_left
  · exact (show False by omega).elim
  refine g_iload_n dL_change_248 rfl rfl ?_
  refine g_iconst dL_change_249 ?_
  refine g_irem dL_change_250 (by omega) (by omega) (by omega) ?_
  refine g_iload_n dL_change_251 rfl rfl ?_
  refine g_iconst dL_change_252 ?_
  refine g_idiv dL_change_253 (by omega) (by omega) (by omega) ?_
  refine g_iconst dL_change_254 ?_
  refine g_callSp (k_low Y _ _ ⟨by decide, by decide⟩) u_L_low mw_317 rfl dL_change_255 rfl rfl ⟨Nat.le_of_ble_eq_true rfl, Nat.le_of_ble_eq_true rfl⟩ ⟨Nat.le_of_ble_eq_true rfl, Nat.le_of_ble_eq_true rfl⟩ (Nat.le_of_ble_eq_true rfl) ?_
  refine g_if_ne (tgt := 265) dL_change_258 (by decide) (by omega) (fun c_258 => ?_) (fun c_258 => ?_)
  · exact (show False by omega).elim
  refine g_iconst dL_change_261 ?_
  refine g_goto (tgt := 269) dL_change_262 (by decide) ?_
  refine g_sipush dL_change_269 (by decide) ?_
  refine g_iconst dL_change_272 ?_
  refine g_iload dL_change_273 rfl ?_
  refine g_imul dL_change_275 ?_
  refine g_iadd dL_change_276 ?_
  refine g_bipush dL_change_277 (by decide) ?_
  refine g_iload dL_change_279 rfl ?_
  refine g_imul dL_change_281 ?_
  refine g_iadd dL_change_282 ?_
  refine g_iconst dL_change_283 ?_
  refine g_iload_n dL_change_284 rfl rfl ?_
  refine g_bipush dL_change_285 (by decide) ?_
  refine g_idiv dL_change_287 (by omega) (by omega) (by omega) ?_
  refine g_bipush dL_change_288 (by decide) ?_
  refine g_callSp (k_low Y _ _ ⟨by decide, by decide⟩) u_L_low mw_317 rfl dL_change_290 rfl rfl ⟨Nat.le_of_ble_eq_true rfl, Nat.le_of_ble_eq_true rfl⟩ ⟨Nat.le_of_ble_eq_true rfl, Nat.le_of_ble_eq_true rfl⟩ (Nat.le_of_ble_eq_true rfl) ?_
  refine g_iadd dL_change_293 ?_
  refine g_callH (ho Y K N I A R Q G M x s h hq sc sg ar hI) u_L_fire mw_534 dL_change_294 rfl rfl ⟨Nat.le_of_ble_eq_true rfl, Nat.le_of_ble_eq_true rfl⟩ ⟨Nat.le_of_ble_eq_true rfl, Nat.le_of_ble_eq_true rfl⟩ (Nat.le_of_ble_eq_true rfl) (fun v1 K1 N1 I1 A1 R1 Q1 hp1 => ?_)
  obtain ⟨rfl, G1, hI1, hf1⟩ := hp1
  exact g_iret dL_change_297 rfl (by decide) (by decide) ⟨rfl, G1, hI1, hf1⟩
set_option maxHeartbeats 4000000 in
set_option maxRecDepth 100000 in
theorem ch_234_2 {W SV T : Int → Int} {n len : Int} (hok : lOk W n SV T len) (hj : jOk W n SV) (hN : iN W) (hn : 0 ≤ n ∧ n ≤ 6) (v more : Int) (hm : -2147483648 ≤ more ∧ more ≤ 2147483647) (z_241 : (sLow more 9) = 0) (z_258 : ¬ (sLow (more.tdiv 3) 5) = 0) : ∃ (r' : Int) (W' : Int → Int) (n' : Int) (SV' : Int → Int), (lOk W' n' SV' T len ∧ jOk W' n' SV') ∧ ∀ (Y : gEnv) (X : gCtx) (K N : Nat → Nat) (I : Nat → Nat → Int) (A : Nat → Int → Int) (R : Nat → Nat → Option Nat) (Q : Nat → Int → Option Nat) (G : Nat → Nat × Int) (M : Nat → Prop) (x s h hq sc sg ar : Nat), cI K N I A R Q G M x s h hq sc sg ar W n SV T len → gJ Y X yL_change cL_change 6 (some .int) ({ frames := 10, cells := 336, slots := 2100, locals := 238 } : Room) (lqP K N I A R Q M x s h hq sc sg ar (vi r') W' n' SV' T len) gno 0 0 234 [(5, vi (sLow (more.tdiv 32) 100)), (4, vi (sLow (more.tdiv 4) 8)), (3, vi (sLow more 4)), (0, .ref x), (1, vi v), (2, vi more)] [] K N I A R Q := by
  have e_0 := sLow_range more (m := 4) (by decide)
  have e_1 := sLow_range (more.tdiv 4) (m := 8) (by decide)
  have e_2 := sLow_range (more.tdiv 32) (m := 100) (by decide)
  have e_3 := sLow_range more (m := 9) (by decide)
  have e_4 := sLow_range (more.tdiv 3) (m := 5) (by decide)
  have e_5 := tm_range (sLow (more.tdiv 4) 8) (m := 4) (by omega) (by decide)
  have e_6 := sLow_range (more.tdiv 9) (m := 101) (by decide)
  obtain ⟨r', W', n', SV', hw, ho⟩ := o_fire hok hj hN hn 3 ((sLow (more.tdiv 4) 8).tmod 4) ((900 + (2 * (sLow (more.tdiv 32) 100))) + (20 * (sLow (more.tdiv 4) 8))) (1 + (sLow (more.tdiv 9) 101)) (by omega) (by omega) (by omega) (by omega)
  refine ⟨r', W', n', SV', hw, fun Y X K N I A R Q G M x s h hq sc sg ar hI => ?_⟩
  refine g_aload_n dL_change_234 rfl rfl ?_
  refine g_iload_n dL_change_235 rfl rfl ?_
  refine g_bipush dL_change_236 (by decide) ?_
  refine g_callSp (k_low Y _ _ ⟨by decide, by decide⟩) u_L_low mw_317 rfl dL_change_238 rfl rfl ⟨Nat.le_of_ble_eq_true rfl, Nat.le_of_ble_eq_true rfl⟩ ⟨Nat.le_of_ble_eq_true rfl, Nat.le_of_ble_eq_true rfl⟩ (Nat.le_of_ble_eq_true rfl) ?_
  refine g_if_ne (tgt := 248) dL_change_241 (by decide) (by omega) (fun c_241 => ?_) (fun c_241 => ?_)
  · exact (show False by omega).elim
  refine g_iconst dL_change_244 ?_
  refine g_goto (tgt := 251) dL_change_245 (by decide) ?_
  refine g_iload_n dL_change_251 rfl rfl ?_
  refine g_iconst dL_change_252 ?_
  refine g_idiv dL_change_253 (by omega) (by omega) (by omega) ?_
  refine g_iconst dL_change_254 ?_
  refine g_callSp (k_low Y _ _ ⟨by decide, by decide⟩) u_L_low mw_317 rfl dL_change_255 rfl rfl ⟨Nat.le_of_ble_eq_true rfl, Nat.le_of_ble_eq_true rfl⟩ ⟨Nat.le_of_ble_eq_true rfl, Nat.le_of_ble_eq_true rfl⟩ (Nat.le_of_ble_eq_true rfl) ?_
  refine g_if_ne (tgt := 265) dL_change_258 (by decide) (by omega) (fun c_258 => ?_) (fun c_258 => ?_)
  rotate_left
  · exact (show False by omega).elim
  refine g_iload dL_change_265 rfl ?_
  refine g_iconst dL_change_267 ?_
  refine g_irem dL_change_268 (by omega) (by omega) (by omega) ?_
  refine g_sipush dL_change_269 (by decide) ?_
  refine g_iconst dL_change_272 ?_
  refine g_iload dL_change_273 rfl ?_
  refine g_imul dL_change_275 ?_
  refine g_iadd dL_change_276 ?_
  refine g_bipush dL_change_277 (by decide) ?_
  refine g_iload dL_change_279 rfl ?_
  refine g_imul dL_change_281 ?_
  refine g_iadd dL_change_282 ?_
  refine g_iconst dL_change_283 ?_
  refine g_iload_n dL_change_284 rfl rfl ?_
  refine g_bipush dL_change_285 (by decide) ?_
  refine g_idiv dL_change_287 (by omega) (by omega) (by omega) ?_
  refine g_bipush dL_change_288 (by decide) ?_
  refine g_callSp (k_low Y _ _ ⟨by decide, by decide⟩) u_L_low mw_317 rfl dL_change_290 rfl rfl ⟨Nat.le_of_ble_eq_true rfl, Nat.le_of_ble_eq_true rfl⟩ ⟨Nat.le_of_ble_eq_true rfl, Nat.le_of_ble_eq_true rfl⟩ (Nat.le_of_ble_eq_true rfl) ?_
  refine g_iadd dL_change_293 ?_
  refine g_callH (ho Y K N I A R Q G M x s h hq sc sg ar hI) u_L_fire mw_534 dL_change_294 rfl rfl ⟨Nat.le_of_ble_eq_true rfl, Nat.le_of_ble_eq_true rfl⟩ ⟨Nat.le_of_ble_eq_true rfl, Nat.le_of_ble_eq_true rfl⟩ (Nat.le_of_ble_eq_true rfl) (fun v1 K1 N1 I1 A1 R1 Q1 hp1 => ?_)
  obtain ⟨rfl, G1, hI1, hf1⟩ := hp1
  exact g_iret dL_change_297 rfl (by decide) (by decide) ⟨rfl, G1, hI1, hf1⟩
set_option maxHeartbeats 4000000 in
set_option maxRecDepth 100000 in
theorem ch_234_3 {W SV T : Int → Int} {n len : Int} (hok : lOk W n SV T len) (hj : jOk W n SV) (hN : iN W) (hn : 0 ≤ n ∧ n ≤ 6) (v more : Int) (hm : -2147483648 ≤ more ∧ more ≤ 2147483647) (z_241 : (sLow more 9) = 0) (z_258 : (sLow (more.tdiv 3) 5) = 0) : ∃ (r' : Int) (W' : Int → Int) (n' : Int) (SV' : Int → Int), (lOk W' n' SV' T len ∧ jOk W' n' SV') ∧ ∀ (Y : gEnv) (X : gCtx) (K N : Nat → Nat) (I : Nat → Nat → Int) (A : Nat → Int → Int) (R : Nat → Nat → Option Nat) (Q : Nat → Int → Option Nat) (G : Nat → Nat × Int) (M : Nat → Prop) (x s h hq sc sg ar : Nat), cI K N I A R Q G M x s h hq sc sg ar W n SV T len → gJ Y X yL_change cL_change 6 (some .int) ({ frames := 10, cells := 336, slots := 2100, locals := 238 } : Room) (lqP K N I A R Q M x s h hq sc sg ar (vi r') W' n' SV' T len) gno 0 0 234 [(5, vi (sLow (more.tdiv 32) 100)), (4, vi (sLow (more.tdiv 4) 8)), (3, vi (sLow more 4)), (0, .ref x), (1, vi v), (2, vi more)] [] K N I A R Q := by
  have e_0 := sLow_range more (m := 4) (by decide)
  have e_1 := sLow_range (more.tdiv 4) (m := 8) (by decide)
  have e_2 := sLow_range (more.tdiv 32) (m := 100) (by decide)
  have e_3 := sLow_range more (m := 9) (by decide)
  have e_4 := sLow_range (more.tdiv 3) (m := 5) (by decide)
  have e_5 := sLow_range (more.tdiv 9) (m := 101) (by decide)
  obtain ⟨r', W', n', SV', hw, ho⟩ := o_fire hok hj hN hn 3 4 ((900 + (2 * (sLow (more.tdiv 32) 100))) + (20 * (sLow (more.tdiv 4) 8))) (1 + (sLow (more.tdiv 9) 101)) (by omega) (by omega) (by omega) (by omega)
  refine ⟨r', W', n', SV', hw, fun Y X K N I A R Q G M x s h hq sc sg ar hI => ?_⟩
  refine g_aload_n dL_change_234 rfl rfl ?_
  refine g_iload_n dL_change_235 rfl rfl ?_
  refine g_bipush dL_change_236 (by decide) ?_
  refine g_callSp (k_low Y _ _ ⟨by decide, by decide⟩) u_L_low mw_317 rfl dL_change_238 rfl rfl ⟨Nat.le_of_ble_eq_true rfl, Nat.le_of_ble_eq_true rfl⟩ ⟨Nat.le_of_ble_eq_true rfl, Nat.le_of_ble_eq_true rfl⟩ (Nat.le_of_ble_eq_true rfl) ?_
  refine g_if_ne (tgt := 248) dL_change_241 (by decide) (by omega) (fun c_241 => ?_) (fun c_241 => ?_)
  · exact (show False by omega).elim
  refine g_iconst dL_change_244 ?_
  refine g_goto (tgt := 251) dL_change_245 (by decide) ?_
  refine g_iload_n dL_change_251 rfl rfl ?_
  refine g_iconst dL_change_252 ?_
  refine g_idiv dL_change_253 (by omega) (by omega) (by omega) ?_
  refine g_iconst dL_change_254 ?_
  refine g_callSp (k_low Y _ _ ⟨by decide, by decide⟩) u_L_low mw_317 rfl dL_change_255 rfl rfl ⟨Nat.le_of_ble_eq_true rfl, Nat.le_of_ble_eq_true rfl⟩ ⟨Nat.le_of_ble_eq_true rfl, Nat.le_of_ble_eq_true rfl⟩ (Nat.le_of_ble_eq_true rfl) ?_
  refine g_if_ne (tgt := 265) dL_change_258 (by decide) (by omega) (fun c_258 => ?_) (fun c_258 => ?_)
  · exact (show False by omega).elim
  refine g_iconst dL_change_261 ?_
  refine g_goto (tgt := 269) dL_change_262 (by decide) ?_
  refine g_sipush dL_change_269 (by decide) ?_
  refine g_iconst dL_change_272 ?_
  refine g_iload dL_change_273 rfl ?_
  refine g_imul dL_change_275 ?_
  refine g_iadd dL_change_276 ?_
  refine g_bipush dL_change_277 (by decide) ?_
  refine g_iload dL_change_279 rfl ?_
  refine g_imul dL_change_281 ?_
  refine g_iadd dL_change_282 ?_
  refine g_iconst dL_change_283 ?_
  refine g_iload_n dL_change_284 rfl rfl ?_
  refine g_bipush dL_change_285 (by decide) ?_
  refine g_idiv dL_change_287 (by omega) (by omega) (by omega) ?_
  refine g_bipush dL_change_288 (by decide) ?_
  refine g_callSp (k_low Y _ _ ⟨by decide, by decide⟩) u_L_low mw_317 rfl dL_change_290 rfl rfl ⟨Nat.le_of_ble_eq_true rfl, Nat.le_of_ble_eq_true rfl⟩ ⟨Nat.le_of_ble_eq_true rfl, Nat.le_of_ble_eq_true rfl⟩ (Nat.le_of_ble_eq_true rfl) ?_
  refine g_iadd dL_change_293 ?_
  refine g_callH (ho Y K N I A R Q G M x s h hq sc sg ar hI) u_L_fire mw_534 dL_change_294 rfl rfl ⟨Nat.le_of_ble_eq_true rfl, Nat.le_of_ble_eq_true rfl⟩ ⟨Nat.le_of_ble_eq_true rfl, Nat.le_of_ble_eq_true rfl⟩ (Nat.le_of_ble_eq_true rfl) (fun v1 K1 N1 I1 A1 R1 Q1 hp1 => ?_)
  obtain ⟨rfl, G1, hI1, hf1⟩ := hp1
  exact g_iret dL_change_297 rfl (by decide) (by decide) ⟨rfl, G1, hI1, hf1⟩
set_option maxHeartbeats 4000000 in
set_option maxRecDepth 100000 in
theorem ch_298_0 {W SV T : Int → Int} {n len : Int} (hok : lOk W n SV T len) (hj : jOk W n SV) (hN : iN W) (hn : 0 ≤ n ∧ n ≤ 6) (v more : Int) (hm : -2147483648 ≤ more ∧ more ≤ 2147483647)  : ∃ (r' : Int) (W' : Int → Int) (n' : Int) (SV' : Int → Int), (lOk W' n' SV' T len ∧ jOk W' n' SV') ∧ ∀ (Y : gEnv) (X : gCtx) (K N : Nat → Nat) (I : Nat → Nat → Int) (A : Nat → Int → Int) (R : Nat → Nat → Option Nat) (Q : Nat → Int → Option Nat) (G : Nat → Nat × Int) (M : Nat → Prop) (x s h hq sc sg ar : Nat), cI K N I A R Q G M x s h hq sc sg ar W n SV T len → gJ Y X yL_change cL_change 6 (some .int) ({ frames := 10, cells := 336, slots := 2100, locals := 238 } : Room) (lqP K N I A R Q M x s h hq sc sg ar (vi r') W' n' SV' T len) gno 0 0 298 [(5, vi (sLow (more.tdiv 32) 100)), (4, vi (sLow (more.tdiv 4) 8)), (3, vi (sLow more 4)), (0, .ref x), (1, vi v), (2, vi more)] [] K N I A R Q := by
  have e_0 := sLow_range more (m := 4) (by decide)
  have e_1 := sLow_range (more.tdiv 4) (m := 8) (by decide)
  have e_2 := sLow_range (more.tdiv 32) (m := 100) (by decide)
  have e_3 := sLow_range more (m := 12) (by decide)
  obtain ⟨r', W', n', SV', hw, ho⟩ := o_grade hok hj hN hn (sLow more 12) (by omega)
  refine ⟨r', W', n', SV', hw, fun Y X K N I A R Q G M x s h hq sc sg ar hI => ?_⟩
  refine g_aload_n dL_change_298 rfl rfl ?_
  refine g_iload_n dL_change_299 rfl rfl ?_
  refine g_bipush dL_change_300 (by decide) ?_
  refine g_callSp (k_low Y _ _ ⟨by decide, by decide⟩) u_L_low mw_317 rfl dL_change_302 rfl rfl ⟨Nat.le_of_ble_eq_true rfl, Nat.le_of_ble_eq_true rfl⟩ ⟨Nat.le_of_ble_eq_true rfl, Nat.le_of_ble_eq_true rfl⟩ (Nat.le_of_ble_eq_true rfl) ?_
  refine g_callH (ho Y K N I A R Q G M x s h hq sc sg ar hI) u_L_grade mw_615 dL_change_305 rfl rfl ⟨Nat.le_of_ble_eq_true rfl, Nat.le_of_ble_eq_true rfl⟩ ⟨Nat.le_of_ble_eq_true rfl, Nat.le_of_ble_eq_true rfl⟩ (Nat.le_of_ble_eq_true rfl) (fun v1 K1 N1 I1 A1 R1 Q1 hp1 => ?_)
  obtain ⟨rfl, G1, hI1, hf1⟩ := hp1
  exact g_iret dL_change_308 rfl (by decide) (by decide) ⟨rfl, G1, hI1, hf1⟩
set_option maxHeartbeats 4000000 in
set_option maxRecDepth 100000 in
theorem ch_309_0 {W SV T : Int → Int} {n len : Int} (hok : lOk W n SV T len) (hj : jOk W n SV) (hN : iN W) (hn : 0 ≤ n ∧ n ≤ 6) (v more : Int) (hm : -2147483648 ≤ more ∧ more ≤ 2147483647)  : ∃ (r' : Int) (W' : Int → Int) (n' : Int) (SV' : Int → Int), (lOk W' n' SV' T len ∧ jOk W' n' SV') ∧ ∀ (Y : gEnv) (X : gCtx) (K N : Nat → Nat) (I : Nat → Nat → Int) (A : Nat → Int → Int) (R : Nat → Nat → Option Nat) (Q : Nat → Int → Option Nat) (G : Nat → Nat × Int) (M : Nat → Prop) (x s h hq sc sg ar : Nat), cI K N I A R Q G M x s h hq sc sg ar W n SV T len → gJ Y X yL_change cL_change 6 (some .int) ({ frames := 10, cells := 336, slots := 2100, locals := 238 } : Room) (lqP K N I A R Q M x s h hq sc sg ar (vi r') W' n' SV' T len) gno 0 0 309 [(5, vi (sLow (more.tdiv 32) 100)), (4, vi (sLow (more.tdiv 4) 8)), (3, vi (sLow more 4)), (0, .ref x), (1, vi v), (2, vi more)] [] K N I A R Q := by
  have e_0 := sLow_range more (m := 4) (by decide)
  have e_1 := sLow_range (more.tdiv 4) (m := 8) (by decide)
  have e_2 := sLow_range (more.tdiv 32) (m := 100) (by decide)
  have hk := lk_pack hN hok.1 hok.2.1
  refine ⟨(sSum (fun l => (W (890 + l)).tdiv (W 89)) (W 1614).toNat 0), sPack W, sCnt n, sSvd SV W n, ⟨hok.op hN hn hk.2.1 hk.2.2, hj.op hn (hj.1.pack hN)⟩, fun Y X K N I A R Q G M x s h hq sc sg ar hI => ?_⟩
  refine g_aload_n dL_change_309 rfl rfl ?_
  refine g_callV0 (i := 9) rfl (gK0 hI.1.1) (g_at9 hI.1.1) (k_A_pack Y hI) u_X12_pack mw_654 dL_change_310 rfl rfl ⟨Nat.le_of_ble_eq_true rfl, Nat.le_of_ble_eq_true rfl⟩ ⟨Nat.le_of_ble_eq_true rfl, Nat.le_of_ble_eq_true rfl⟩ (Nat.le_of_ble_eq_true rfl) (fun E K9 N9 I9 A9 R9 Q9 hz => hz.1 rfl) (fun v1 K1 N1 I1 A1 R1 Q1 hp1 => ?_)
  obtain ⟨-, rfl, G1, hI1, hf1⟩ := hp1
  exact g_iret dL_change_313 rfl (by decide) (by decide) ⟨rfl, G1, hI1, hf1⟩
set_option maxHeartbeats 4000000 in
set_option maxRecDepth 100000 in
theorem ch_314_0 {W SV T : Int → Int} {n len : Int} (hok : lOk W n SV T len) (hj : jOk W n SV) (hN : iN W) (hn : 0 ≤ n ∧ n ≤ 6) (v more : Int) (hm : -2147483648 ≤ more ∧ more ≤ 2147483647) (z_324 : ¬ (sLow (more.tdiv 4) 9) = 0) : ∃ (r' : Int) (W' : Int → Int) (n' : Int) (SV' : Int → Int), (lOk W' n' SV' T len ∧ jOk W' n' SV') ∧ ∀ (Y : gEnv) (X : gCtx) (K N : Nat → Nat) (I : Nat → Nat → Int) (A : Nat → Int → Int) (R : Nat → Nat → Option Nat) (Q : Nat → Int → Option Nat) (G : Nat → Nat × Int) (M : Nat → Prop) (x s h hq sc sg ar : Nat), cI K N I A R Q G M x s h hq sc sg ar W n SV T len → gJ Y X yL_change cL_change 6 (some .int) ({ frames := 10, cells := 336, slots := 2100, locals := 238 } : Room) (lqP K N I A R Q M x s h hq sc sg ar (vi r') W' n' SV' T len) gno 0 0 314 [(5, vi (sLow (more.tdiv 32) 100)), (4, vi (sLow (more.tdiv 4) 8)), (3, vi (sLow more 4)), (0, .ref x), (1, vi v), (2, vi more)] [] K N I A R Q := by
  have e_0 := sLow_range more (m := 4) (by decide)
  have e_1 := sLow_range (more.tdiv 4) (m := 8) (by decide)
  have e_2 := sLow_range (more.tdiv 32) (m := 100) (by decide)
  have e_3 := sLow_range (more.tdiv 4) (m := 9) (by decide)
  have e_4 := sLow_range (more.tdiv 36) (m := 12) (by decide)
  obtain ⟨r', W', n', SV', hw, ho⟩ := o_deliver hok hj hN hn (sLow more 4) 1 (sLow (more.tdiv 36) 12) (by omega) (by omega) (by omega)
  refine ⟨r', W', n', SV', hw, fun Y X K N I A R Q G M x s h hq sc sg ar hI => ?_⟩
  refine g_aload_n dL_change_314 rfl rfl ?_
  refine g_iload_n dL_change_315 rfl rfl ?_
  refine g_iload_n dL_change_316 rfl rfl ?_
  refine g_iconst dL_change_317 ?_
  refine g_idiv dL_change_318 (by omega) (by omega) (by omega) ?_
  refine g_bipush dL_change_319 (by decide) ?_
  refine g_callSp (k_low Y _ _ ⟨by decide, by decide⟩) u_L_low mw_317 rfl dL_change_321 rfl rfl ⟨Nat.le_of_ble_eq_true rfl, Nat.le_of_ble_eq_true rfl⟩ ⟨Nat.le_of_ble_eq_true rfl, Nat.le_of_ble_eq_true rfl⟩ (Nat.le_of_ble_eq_true rfl) ?_
  refine g_if_ne (tgt := 331) dL_change_324 (by decide) (by omega) (fun c_324 => ?_) (fun c_324 => ?_)
  rotate_left
  · exact (show False by omega).elim
  refine g_iconst dL_change_331 ?_
  refine g_iload_n dL_change_332 rfl rfl ?_
  refine g_bipush dL_change_333 (by decide) ?_
  refine g_idiv dL_change_335 (by omega) (by omega) (by omega) ?_
  refine g_bipush dL_change_336 (by decide) ?_
  refine g_callSp (k_low Y _ _ ⟨by decide, by decide⟩) u_L_low mw_317 rfl dL_change_338 rfl rfl ⟨Nat.le_of_ble_eq_true rfl, Nat.le_of_ble_eq_true rfl⟩ ⟨Nat.le_of_ble_eq_true rfl, Nat.le_of_ble_eq_true rfl⟩ (Nat.le_of_ble_eq_true rfl) ?_
  refine g_callH (ho Y K N I A R Q G M x s h hq sc sg ar hI) u_L_deliver mw_666 dL_change_341 rfl rfl ⟨Nat.le_of_ble_eq_true rfl, Nat.le_of_ble_eq_true rfl⟩ ⟨Nat.le_of_ble_eq_true rfl, Nat.le_of_ble_eq_true rfl⟩ (Nat.le_of_ble_eq_true rfl) (fun v1 K1 N1 I1 A1 R1 Q1 hp1 => ?_)
  obtain ⟨rfl, G1, hI1, hf1⟩ := hp1
  exact g_iret dL_change_344 rfl (by decide) (by decide) ⟨rfl, G1, hI1, hf1⟩
set_option maxHeartbeats 4000000 in
set_option maxRecDepth 100000 in
theorem ch_314_1 {W SV T : Int → Int} {n len : Int} (hok : lOk W n SV T len) (hj : jOk W n SV) (hN : iN W) (hn : 0 ≤ n ∧ n ≤ 6) (v more : Int) (hm : -2147483648 ≤ more ∧ more ≤ 2147483647) (z_324 : (sLow (more.tdiv 4) 9) = 0) : ∃ (r' : Int) (W' : Int → Int) (n' : Int) (SV' : Int → Int), (lOk W' n' SV' T len ∧ jOk W' n' SV') ∧ ∀ (Y : gEnv) (X : gCtx) (K N : Nat → Nat) (I : Nat → Nat → Int) (A : Nat → Int → Int) (R : Nat → Nat → Option Nat) (Q : Nat → Int → Option Nat) (G : Nat → Nat × Int) (M : Nat → Prop) (x s h hq sc sg ar : Nat), cI K N I A R Q G M x s h hq sc sg ar W n SV T len → gJ Y X yL_change cL_change 6 (some .int) ({ frames := 10, cells := 336, slots := 2100, locals := 238 } : Room) (lqP K N I A R Q M x s h hq sc sg ar (vi r') W' n' SV' T len) gno 0 0 314 [(5, vi (sLow (more.tdiv 32) 100)), (4, vi (sLow (more.tdiv 4) 8)), (3, vi (sLow more 4)), (0, .ref x), (1, vi v), (2, vi more)] [] K N I A R Q := by
  have e_0 := sLow_range more (m := 4) (by decide)
  have e_1 := sLow_range (more.tdiv 4) (m := 8) (by decide)
  have e_2 := sLow_range (more.tdiv 32) (m := 100) (by decide)
  have e_3 := sLow_range (more.tdiv 4) (m := 9) (by decide)
  have e_4 := sLow_range (more.tdiv 36) (m := 12) (by decide)
  obtain ⟨r', W', n', SV', hw, ho⟩ := o_deliver hok hj hN hn (sLow more 4) 2 (sLow (more.tdiv 36) 12) (by omega) (by omega) (by omega)
  refine ⟨r', W', n', SV', hw, fun Y X K N I A R Q G M x s h hq sc sg ar hI => ?_⟩
  refine g_aload_n dL_change_314 rfl rfl ?_
  refine g_iload_n dL_change_315 rfl rfl ?_
  refine g_iload_n dL_change_316 rfl rfl ?_
  refine g_iconst dL_change_317 ?_
  refine g_idiv dL_change_318 (by omega) (by omega) (by omega) ?_
  refine g_bipush dL_change_319 (by decide) ?_
  refine g_callSp (k_low Y _ _ ⟨by decide, by decide⟩) u_L_low mw_317 rfl dL_change_321 rfl rfl ⟨Nat.le_of_ble_eq_true rfl, Nat.le_of_ble_eq_true rfl⟩ ⟨Nat.le_of_ble_eq_true rfl, Nat.le_of_ble_eq_true rfl⟩ (Nat.le_of_ble_eq_true rfl) ?_
  refine g_if_ne (tgt := 331) dL_change_324 (by decide) (by omega) (fun c_324 => ?_) (fun c_324 => ?_)
  · exact (show False by omega).elim
  refine g_iconst dL_change_327 ?_
  refine g_goto (tgt := 332) dL_change_328 (by decide) ?_
  refine g_iload_n dL_change_332 rfl rfl ?_
  refine g_bipush dL_change_333 (by decide) ?_
  refine g_idiv dL_change_335 (by omega) (by omega) (by omega) ?_
  refine g_bipush dL_change_336 (by decide) ?_
  refine g_callSp (k_low Y _ _ ⟨by decide, by decide⟩) u_L_low mw_317 rfl dL_change_338 rfl rfl ⟨Nat.le_of_ble_eq_true rfl, Nat.le_of_ble_eq_true rfl⟩ ⟨Nat.le_of_ble_eq_true rfl, Nat.le_of_ble_eq_true rfl⟩ (Nat.le_of_ble_eq_true rfl) ?_
  refine g_callH (ho Y K N I A R Q G M x s h hq sc sg ar hI) u_L_deliver mw_666 dL_change_341 rfl rfl ⟨Nat.le_of_ble_eq_true rfl, Nat.le_of_ble_eq_true rfl⟩ ⟨Nat.le_of_ble_eq_true rfl, Nat.le_of_ble_eq_true rfl⟩ (Nat.le_of_ble_eq_true rfl) (fun v1 K1 N1 I1 A1 R1 Q1 hp1 => ?_)
  obtain ⟨rfl, G1, hI1, hf1⟩ := hp1
  exact g_iret dL_change_344 rfl (by decide) (by decide) ⟨rfl, G1, hI1, hf1⟩
set_option maxHeartbeats 4000000 in
set_option maxRecDepth 100000 in
theorem ch_345_0 {W SV T : Int → Int} {n len : Int} (hok : lOk W n SV T len) (hj : jOk W n SV) (hN : iN W) (hn : 0 ≤ n ∧ n ≤ 6) (v more : Int) (hm : -2147483648 ≤ more ∧ more ≤ 2147483647) (z_352 : 0 ≤ (pLot W (sLow (more.tdiv 4) 8) 0)) : ∃ (r' : Int) (W' : Int → Int) (n' : Int) (SV' : Int → Int), (lOk W' n' SV' T len ∧ jOk W' n' SV') ∧ ∀ (Y : gEnv) (X : gCtx) (K N : Nat → Nat) (I : Nat → Nat → Int) (A : Nat → Int → Int) (R : Nat → Nat → Option Nat) (Q : Nat → Int → Option Nat) (G : Nat → Nat × Int) (M : Nat → Prop) (x s h hq sc sg ar : Nat), cI K N I A R Q G M x s h hq sc sg ar W n SV T len → gJ Y X yL_change cL_change 6 (some .int) ({ frames := 10, cells := 336, slots := 2100, locals := 238 } : Room) (lqP K N I A R Q M x s h hq sc sg ar (vi r') W' n' SV' T len) gno 0 0 345 [(5, vi (sLow (more.tdiv 32) 100)), (4, vi (sLow (more.tdiv 4) 8)), (3, vi (sLow more 4)), (0, .ref x), (1, vi v), (2, vi more)] [] K N I A R Q := by
  have e_0 := sLow_range more (m := 4) (by decide)
  have e_1 := sLow_range (more.tdiv 4) (m := 8) (by decide)
  have e_2 := sLow_range (more.tdiv 32) (m := 100) (by decide)
  have e_3 := pLot_range hN (sLow (more.tdiv 4) 8) 0 (by omega)
  have e_4 := pLot_range hN (sLow (more.tdiv 4) 8) 1 (by omega)
  have e_5 := pLot_range hN (sLow (more.tdiv 4) 8) 2 (by omega)
  have e_6 := sLow_range (more.tdiv 32) (m := 14) (by decide)
  obtain ⟨r', W', n', SV', hw, ho⟩ := o_drop hok hj hN hn (pLot W (sLow (more.tdiv 4) 8) 0) (pLot W (sLow (more.tdiv 4) 8) 1) (pLot W (sLow (more.tdiv 4) 8) 2) (sLow (more.tdiv 32) 14) (by omega) (by omega) (by omega) (by omega)
  refine ⟨r', W', n', SV', hw, fun Y X K N I A R Q G M x s h hq sc sg ar hI => ?_⟩
  refine g_aload_n dL_change_345 rfl rfl ?_
  refine g_iload dL_change_346 rfl ?_
  refine g_iconst dL_change_348 ?_
  refine g_callH (k_P_lot Y hI (sLow (more.tdiv 4) 8) 0 (by omega) (by omega)) u_L_lot mw_712 dL_change_349 rfl rfl ⟨Nat.le_of_ble_eq_true rfl, Nat.le_of_ble_eq_true rfl⟩ ⟨Nat.le_of_ble_eq_true rfl, Nat.le_of_ble_eq_true rfl⟩ (Nat.le_of_ble_eq_true rfl) (fun v1 K1 N1 I1 A1 R1 Q1 hp1 => ?_)
  obtain ⟨rfl, G1, hI1, hf1⟩ := hp1
  refine g_if_ge (tgt := 359) dL_change_352 (by decide) (by omega) (fun c_352 => ?_) (fun c_352 => ?_)
  rotate_left
  · exact (show False by omega).elim
  refine g_aload_n dL_change_359 rfl rfl ?_
  refine g_aload_n dL_change_360 rfl rfl ?_
  refine g_iload dL_change_361 rfl ?_
  refine g_iconst dL_change_363 ?_
  refine g_callH (k_P_lot Y hI1 (sLow (more.tdiv 4) 8) 0 (by omega) (by omega)) u_L_lot mw_712 dL_change_364 rfl rfl ⟨Nat.le_of_ble_eq_true rfl, Nat.le_of_ble_eq_true rfl⟩ ⟨Nat.le_of_ble_eq_true rfl, Nat.le_of_ble_eq_true rfl⟩ (Nat.le_of_ble_eq_true rfl) (fun v2 K2 N2 I2 A2 R2 Q2 hp2 => ?_)
  obtain ⟨rfl, G2, hI2, hf2⟩ := hp2
  refine g_aload_n dL_change_367 rfl rfl ?_
  refine g_iload dL_change_368 rfl ?_
  refine g_iconst dL_change_370 ?_
  refine g_callH (k_P_lot Y hI2 (sLow (more.tdiv 4) 8) 1 (by omega) (by omega)) u_L_lot mw_712 dL_change_371 rfl rfl ⟨Nat.le_of_ble_eq_true rfl, Nat.le_of_ble_eq_true rfl⟩ ⟨Nat.le_of_ble_eq_true rfl, Nat.le_of_ble_eq_true rfl⟩ (Nat.le_of_ble_eq_true rfl) (fun v3 K3 N3 I3 A3 R3 Q3 hp3 => ?_)
  obtain ⟨rfl, G3, hI3, hf3⟩ := hp3
  refine g_aload_n dL_change_374 rfl rfl ?_
  refine g_iload dL_change_375 rfl ?_
  refine g_iconst dL_change_377 ?_
  refine g_callH (k_P_lot Y hI3 (sLow (more.tdiv 4) 8) 2 (by omega) (by omega)) u_L_lot mw_712 dL_change_378 rfl rfl ⟨Nat.le_of_ble_eq_true rfl, Nat.le_of_ble_eq_true rfl⟩ ⟨Nat.le_of_ble_eq_true rfl, Nat.le_of_ble_eq_true rfl⟩ (Nat.le_of_ble_eq_true rfl) (fun v4 K4 N4 I4 A4 R4 Q4 hp4 => ?_)
  obtain ⟨rfl, G4, hI4, hf4⟩ := hp4
  refine g_iload_n dL_change_381 rfl rfl ?_
  refine g_bipush dL_change_382 (by decide) ?_
  refine g_idiv dL_change_384 (by omega) (by omega) (by omega) ?_
  refine g_bipush dL_change_385 (by decide) ?_
  refine g_callSp (k_low Y _ _ ⟨by decide, by decide⟩) u_L_low mw_317 rfl dL_change_387 rfl rfl ⟨Nat.le_of_ble_eq_true rfl, Nat.le_of_ble_eq_true rfl⟩ ⟨Nat.le_of_ble_eq_true rfl, Nat.le_of_ble_eq_true rfl⟩ (Nat.le_of_ble_eq_true rfl) ?_
  refine g_callH (ho Y K4 N4 I4 A4 R4 Q4 G4 M x s h hq sc sg ar hI4) u_L_drop mw_724 dL_change_390 rfl rfl ⟨Nat.le_of_ble_eq_true rfl, Nat.le_of_ble_eq_true rfl⟩ ⟨Nat.le_of_ble_eq_true rfl, Nat.le_of_ble_eq_true rfl⟩ (Nat.le_of_ble_eq_true rfl) (fun v5 K5 N5 I5 A5 R5 Q5 hp5 => ?_)
  obtain ⟨rfl, G5, hI5, hf5⟩ := hp5
  exact g_iret dL_change_393 rfl (by decide) (by decide) ⟨rfl, G5, hI5, (hf1.trans (hf2.trans (hf3.trans (hf4.trans hf5))))⟩
set_option maxHeartbeats 4000000 in
set_option maxRecDepth 100000 in
theorem ch_345_1 {W SV T : Int → Int} {n len : Int} (hok : lOk W n SV T len) (hj : jOk W n SV) (hN : iN W) (hn : 0 ≤ n ∧ n ≤ 6) (v more : Int) (hm : -2147483648 ≤ more ∧ more ≤ 2147483647) (z_352 : (pLot W (sLow (more.tdiv 4) 8) 0) < 0) : ∃ (r' : Int) (W' : Int → Int) (n' : Int) (SV' : Int → Int), (lOk W' n' SV' T len ∧ jOk W' n' SV') ∧ ∀ (Y : gEnv) (X : gCtx) (K N : Nat → Nat) (I : Nat → Nat → Int) (A : Nat → Int → Int) (R : Nat → Nat → Option Nat) (Q : Nat → Int → Option Nat) (G : Nat → Nat × Int) (M : Nat → Prop) (x s h hq sc sg ar : Nat), cI K N I A R Q G M x s h hq sc sg ar W n SV T len → gJ Y X yL_change cL_change 6 (some .int) ({ frames := 10, cells := 336, slots := 2100, locals := 238 } : Room) (lqP K N I A R Q M x s h hq sc sg ar (vi r') W' n' SV' T len) gno 0 0 345 [(5, vi (sLow (more.tdiv 32) 100)), (4, vi (sLow (more.tdiv 4) 8)), (3, vi (sLow more 4)), (0, .ref x), (1, vi v), (2, vi more)] [] K N I A R Q := by
  have e_0 := sLow_range more (m := 4) (by decide)
  have e_1 := sLow_range (more.tdiv 4) (m := 8) (by decide)
  have e_2 := sLow_range (more.tdiv 32) (m := 100) (by decide)
  have e_3 := pLot_range hN (sLow (more.tdiv 4) 8) 0 (by omega)
  refine ⟨0, W, n, SV, ⟨hok, hj⟩, fun Y X K N I A R Q G M x s h hq sc sg ar hI => ?_⟩
  refine g_aload_n dL_change_345 rfl rfl ?_
  refine g_iload dL_change_346 rfl ?_
  refine g_iconst dL_change_348 ?_
  refine g_callH (k_P_lot Y hI (sLow (more.tdiv 4) 8) 0 (by omega) (by omega)) u_L_lot mw_712 dL_change_349 rfl rfl ⟨Nat.le_of_ble_eq_true rfl, Nat.le_of_ble_eq_true rfl⟩ ⟨Nat.le_of_ble_eq_true rfl, Nat.le_of_ble_eq_true rfl⟩ (Nat.le_of_ble_eq_true rfl) (fun v1 K1 N1 I1 A1 R1 Q1 hp1 => ?_)
  obtain ⟨rfl, G1, hI1, hf1⟩ := hp1
  refine g_if_ge (tgt := 359) dL_change_352 (by decide) (by omega) (fun c_352 => ?_) (fun c_352 => ?_)
  · exact (show False by omega).elim
  refine g_iconst dL_change_355 ?_
  refine g_goto (tgt := 393) dL_change_356 (by decide) ?_
  exact g_iret dL_change_393 rfl (by decide) (by decide) ⟨rfl, G1, hI1, hf1⟩
set_option maxHeartbeats 4000000 in
set_option maxRecDepth 100000 in
theorem ch_394_0 {W SV T : Int → Int} {n len : Int} (hok : lOk W n SV T len) (hj : jOk W n SV) (hN : iN W) (hn : 0 ≤ n ∧ n ≤ 6) (v more : Int) (hm : -2147483648 ≤ more ∧ more ≤ 2147483647)  : ∃ (r' : Int) (W' : Int → Int) (n' : Int) (SV' : Int → Int), (lOk W' n' SV' T len ∧ jOk W' n' SV') ∧ ∀ (Y : gEnv) (X : gCtx) (K N : Nat → Nat) (I : Nat → Nat → Int) (A : Nat → Int → Int) (R : Nat → Nat → Option Nat) (Q : Nat → Int → Option Nat) (G : Nat → Nat × Int) (M : Nat → Prop) (x s h hq sc sg ar : Nat), cI K N I A R Q G M x s h hq sc sg ar W n SV T len → gJ Y X yL_change cL_change 6 (some .int) ({ frames := 10, cells := 336, slots := 2100, locals := 238 } : Room) (lqP K N I A R Q M x s h hq sc sg ar (vi r') W' n' SV' T len) gno 0 0 394 [(5, vi (sLow (more.tdiv 32) 100)), (4, vi (sLow (more.tdiv 4) 8)), (3, vi (sLow more 4)), (0, .ref x), (1, vi v), (2, vi more)] [] K N I A R Q := by
  have e_0 := sLow_range more (m := 4) (by decide)
  have e_1 := sLow_range (more.tdiv 4) (m := 8) (by decide)
  have e_2 := sLow_range (more.tdiv 32) (m := 100) (by decide)
  have e_3 := sLow_range (more.tdiv 4) (m := 4) (by decide)
  have e_4 := tq_range (sLow (more.tdiv 32) 100) (m := 3) (by omega) (by decide)
  obtain ⟨r', W', n', SV', hw, ho⟩ := o_takeBack hok hj hN hn (sLow more 4) (1 + (sLow (more.tdiv 4) 4)) ((sLow (more.tdiv 32) 100).tdiv 3) (by omega) (by omega) (by omega)
  refine ⟨r', W', n', SV', hw, fun Y X K N I A R Q G M x s h hq sc sg ar hI => ?_⟩
  refine g_aload_n dL_change_394 rfl rfl ?_
  refine g_iload_n dL_change_395 rfl rfl ?_
  refine g_iconst dL_change_396 ?_
  refine g_iload_n dL_change_397 rfl rfl ?_
  refine g_iconst dL_change_398 ?_
  refine g_idiv dL_change_399 (by omega) (by omega) (by omega) ?_
  refine g_iconst dL_change_400 ?_
  refine g_callSp (k_low Y _ _ ⟨by decide, by decide⟩) u_L_low mw_317 rfl dL_change_401 rfl rfl ⟨Nat.le_of_ble_eq_true rfl, Nat.le_of_ble_eq_true rfl⟩ ⟨Nat.le_of_ble_eq_true rfl, Nat.le_of_ble_eq_true rfl⟩ (Nat.le_of_ble_eq_true rfl) ?_
  refine g_iadd dL_change_404 ?_
  refine g_iload dL_change_405 rfl ?_
  refine g_iconst dL_change_407 ?_
  refine g_idiv dL_change_408 (by omega) (by omega) (by omega) ?_
  refine g_callH (ho Y K N I A R Q G M x s h hq sc sg ar hI) u_L_takeBack mw_744 dL_change_409 rfl rfl ⟨Nat.le_of_ble_eq_true rfl, Nat.le_of_ble_eq_true rfl⟩ ⟨Nat.le_of_ble_eq_true rfl, Nat.le_of_ble_eq_true rfl⟩ (Nat.le_of_ble_eq_true rfl) (fun v1 K1 N1 I1 A1 R1 Q1 hp1 => ?_)
  obtain ⟨rfl, G1, hI1, hf1⟩ := hp1
  exact g_iret dL_change_412 rfl (by decide) (by decide) ⟨rfl, G1, hI1, hf1⟩
set_option maxHeartbeats 4000000 in
set_option maxRecDepth 100000 in
theorem ch_413_0 {W SV T : Int → Int} {n len : Int} (hok : lOk W n SV T len) (hj : jOk W n SV) (hN : iN W) (hn : 0 ≤ n ∧ n ≤ 6) (v more : Int) (hm : -2147483648 ≤ more ∧ more ≤ 2147483647)  : ∃ (r' : Int) (W' : Int → Int) (n' : Int) (SV' : Int → Int), (lOk W' n' SV' T len ∧ jOk W' n' SV') ∧ ∀ (Y : gEnv) (X : gCtx) (K N : Nat → Nat) (I : Nat → Nat → Int) (A : Nat → Int → Int) (R : Nat → Nat → Option Nat) (Q : Nat → Int → Option Nat) (G : Nat → Nat × Int) (M : Nat → Prop) (x s h hq sc sg ar : Nat), cI K N I A R Q G M x s h hq sc sg ar W n SV T len → gJ Y X yL_change cL_change 6 (some .int) ({ frames := 10, cells := 336, slots := 2100, locals := 238 } : Room) (lqP K N I A R Q M x s h hq sc sg ar (vi r') W' n' SV' T len) gno 0 0 413 [(5, vi (sLow (more.tdiv 32) 100)), (4, vi (sLow (more.tdiv 4) 8)), (3, vi (sLow more 4)), (0, .ref x), (1, vi v), (2, vi more)] [] K N I A R Q := by
  have e_0 := sLow_range more (m := 4) (by decide)
  have e_1 := sLow_range (more.tdiv 4) (m := 8) (by decide)
  have e_2 := sLow_range (more.tdiv 32) (m := 100) (by decide)
  obtain ⟨r', W', n', SV', hw, ho⟩ := o_replace hok hj hN hn (sLow more 4) (by omega)
  refine ⟨r', W', n', SV', hw, fun Y X K N I A R Q G M x s h hq sc sg ar hI => ?_⟩
  refine g_aload_n dL_change_413 rfl rfl ?_
  refine g_iload_n dL_change_414 rfl rfl ?_
  refine g_callH (ho Y K N I A R Q G M x s h hq sc sg ar hI) u_L_replace mw_763 dL_change_415 rfl rfl ⟨Nat.le_of_ble_eq_true rfl, Nat.le_of_ble_eq_true rfl⟩ ⟨Nat.le_of_ble_eq_true rfl, Nat.le_of_ble_eq_true rfl⟩ (Nat.le_of_ble_eq_true rfl) (fun v1 K1 N1 I1 A1 R1 Q1 hp1 => ?_)
  obtain ⟨rfl, G1, hI1, hf1⟩ := hp1
  exact g_iret dL_change_418 rfl (by decide) (by decide) ⟨rfl, G1, hI1, hf1⟩
set_option maxHeartbeats 4000000 in
set_option maxRecDepth 100000 in
theorem ch_419_0 {W SV T : Int → Int} {n len : Int} (hok : lOk W n SV T len) (hj : jOk W n SV) (hN : iN W) (hn : 0 ≤ n ∧ n ≤ 6) (v more : Int) (hm : -2147483648 ≤ more ∧ more ≤ 2147483647)  : ∃ (r' : Int) (W' : Int → Int) (n' : Int) (SV' : Int → Int), (lOk W' n' SV' T len ∧ jOk W' n' SV') ∧ ∀ (Y : gEnv) (X : gCtx) (K N : Nat → Nat) (I : Nat → Nat → Int) (A : Nat → Int → Int) (R : Nat → Nat → Option Nat) (Q : Nat → Int → Option Nat) (G : Nat → Nat × Int) (M : Nat → Prop) (x s h hq sc sg ar : Nat), cI K N I A R Q G M x s h hq sc sg ar W n SV T len → gJ Y X yL_change cL_change 6 (some .int) ({ frames := 10, cells := 336, slots := 2100, locals := 238 } : Room) (lqP K N I A R Q M x s h hq sc sg ar (vi r') W' n' SV' T len) gno 0 0 419 [(5, vi (sLow (more.tdiv 32) 100)), (4, vi (sLow (more.tdiv 4) 8)), (3, vi (sLow more 4)), (0, .ref x), (1, vi v), (2, vi more)] [] K N I A R Q := by
  have e_0 := sLow_range more (m := 4) (by decide)
  have e_1 := sLow_range (more.tdiv 4) (m := 8) (by decide)
  have e_2 := sLow_range (more.tdiv 32) (m := 100) (by decide)
  obtain ⟨r', W', n', SV', hw, ho⟩ := o_undo hok hj hN hn  
  refine ⟨r', W', n', SV', hw, fun Y X K N I A R Q G M x s h hq sc sg ar hI => ?_⟩
  refine g_aload_n dL_change_419 rfl rfl ?_
  refine g_callH (ho Y K N I A R Q G M x s h hq sc sg ar hI) u_L_undo mw_778 dL_change_420 rfl rfl ⟨Nat.le_of_ble_eq_true rfl, Nat.le_of_ble_eq_true rfl⟩ ⟨Nat.le_of_ble_eq_true rfl, Nat.le_of_ble_eq_true rfl⟩ (Nat.le_of_ble_eq_true rfl) (fun v1 K1 N1 I1 A1 R1 Q1 hp1 => ?_)
  obtain ⟨rfl, G1, hI1, hf1⟩ := hp1
  exact g_iret dL_change_423 rfl (by decide) (by decide) ⟨rfl, G1, hI1, hf1⟩
set_option maxHeartbeats 4000000 in
set_option maxRecDepth 100000 in
theorem ch_424_0 {W SV T : Int → Int} {n len : Int} (hok : lOk W n SV T len) (hj : jOk W n SV) (hN : iN W) (hn : 0 ≤ n ∧ n ≤ 6) (v more : Int) (hm : -2147483648 ≤ more ∧ more ≤ 2147483647)  : ∃ (r' : Int) (W' : Int → Int) (n' : Int) (SV' : Int → Int), (lOk W' n' SV' T len ∧ jOk W' n' SV') ∧ ∀ (Y : gEnv) (X : gCtx) (K N : Nat → Nat) (I : Nat → Nat → Int) (A : Nat → Int → Int) (R : Nat → Nat → Option Nat) (Q : Nat → Int → Option Nat) (G : Nat → Nat × Int) (M : Nat → Prop) (x s h hq sc sg ar : Nat), cI K N I A R Q G M x s h hq sc sg ar W n SV T len → gJ Y X yL_change cL_change 6 (some .int) ({ frames := 10, cells := 336, slots := 2100, locals := 238 } : Room) (lqP K N I A R Q M x s h hq sc sg ar (vi r') W' n' SV' T len) gno 0 0 424 [(5, vi (sLow (more.tdiv 32) 100)), (4, vi (sLow (more.tdiv 4) 8)), (3, vi (sLow more 4)), (0, .ref x), (1, vi v), (2, vi more)] [] K N I A R Q := by
  have e_0 := sLow_range more (m := 4) (by decide)
  have e_1 := sLow_range (more.tdiv 4) (m := 8) (by decide)
  have e_2 := sLow_range (more.tdiv 32) (m := 100) (by decide)
  obtain ⟨r', W', n', SV', hw, ho⟩ := o_fire hok hj hN hn 0 (sLow more 4) 1000 (sLow (more.tdiv 32) 100) (by omega) (by omega) (by omega) (by omega)
  refine ⟨r', W', n', SV', hw, fun Y X K N I A R Q G M x s h hq sc sg ar hI => ?_⟩
  refine g_aload_n dL_change_424 rfl rfl ?_
  refine g_iconst dL_change_425 ?_
  refine g_iload_n dL_change_426 rfl rfl ?_
  refine g_sipush dL_change_427 (by decide) ?_
  refine g_iload dL_change_430 rfl ?_
  refine g_callH (ho Y K N I A R Q G M x s h hq sc sg ar hI) u_L_fire mw_534 dL_change_432 rfl rfl ⟨Nat.le_of_ble_eq_true rfl, Nat.le_of_ble_eq_true rfl⟩ ⟨Nat.le_of_ble_eq_true rfl, Nat.le_of_ble_eq_true rfl⟩ (Nat.le_of_ble_eq_true rfl) (fun v1 K1 N1 I1 A1 R1 Q1 hp1 => ?_)
  obtain ⟨rfl, G1, hI1, hf1⟩ := hp1
  exact g_iret dL_change_435 rfl (by decide) (by decide) ⟨rfl, G1, hI1, hf1⟩
set_option maxHeartbeats 4000000 in
set_option maxRecDepth 100000 in
theorem ch_436_0 {W SV T : Int → Int} {n len : Int} (hok : lOk W n SV T len) (hj : jOk W n SV) (hN : iN W) (hn : 0 ≤ n ∧ n ≤ 6) (v more : Int) (hm : -2147483648 ≤ more ∧ more ≤ 2147483647)  : ∃ (r' : Int) (W' : Int → Int) (n' : Int) (SV' : Int → Int), (lOk W' n' SV' T len ∧ jOk W' n' SV') ∧ ∀ (Y : gEnv) (X : gCtx) (K N : Nat → Nat) (I : Nat → Nat → Int) (A : Nat → Int → Int) (R : Nat → Nat → Option Nat) (Q : Nat → Int → Option Nat) (G : Nat → Nat × Int) (M : Nat → Prop) (x s h hq sc sg ar : Nat), cI K N I A R Q G M x s h hq sc sg ar W n SV T len → gJ Y X yL_change cL_change 6 (some .int) ({ frames := 10, cells := 336, slots := 2100, locals := 238 } : Room) (lqP K N I A R Q M x s h hq sc sg ar (vi r') W' n' SV' T len) gno 0 0 436 [(5, vi (sLow (more.tdiv 32) 100)), (4, vi (sLow (more.tdiv 4) 8)), (3, vi (sLow more 4)), (0, .ref x), (1, vi v), (2, vi more)] [] K N I A R Q := by
  have e_0 := sLow_range more (m := 4) (by decide)
  have e_1 := sLow_range (more.tdiv 4) (m := 8) (by decide)
  have e_2 := sLow_range (more.tdiv 32) (m := 100) (by decide)
  have e_3 := sLow_range more (m := 10) (by decide)
  obtain ⟨r', W', n', SV', hw, ho⟩ := o_grade hok hj hN hn (1 + (sLow more 10)) (by omega)
  refine ⟨r', W', n', SV', hw, fun Y X K N I A R Q G M x s h hq sc sg ar hI => ?_⟩
  refine g_aload_n dL_change_436 rfl rfl ?_
  refine g_iconst dL_change_437 ?_
  refine g_iload_n dL_change_438 rfl rfl ?_
  refine g_bipush dL_change_439 (by decide) ?_
  refine g_callSp (k_low Y _ _ ⟨by decide, by decide⟩) u_L_low mw_317 rfl dL_change_441 rfl rfl ⟨Nat.le_of_ble_eq_true rfl, Nat.le_of_ble_eq_true rfl⟩ ⟨Nat.le_of_ble_eq_true rfl, Nat.le_of_ble_eq_true rfl⟩ (Nat.le_of_ble_eq_true rfl) ?_
  refine g_iadd dL_change_444 ?_
  refine g_callH (ho Y K N I A R Q G M x s h hq sc sg ar hI) u_L_grade mw_615 dL_change_445 rfl rfl ⟨Nat.le_of_ble_eq_true rfl, Nat.le_of_ble_eq_true rfl⟩ ⟨Nat.le_of_ble_eq_true rfl, Nat.le_of_ble_eq_true rfl⟩ (Nat.le_of_ble_eq_true rfl) (fun v1 K1 N1 I1 A1 R1 Q1 hp1 => ?_)
  obtain ⟨rfl, G1, hI1, hf1⟩ := hp1
  exact g_iret dL_change_448 rfl (by decide) (by decide) ⟨rfl, G1, hI1, hf1⟩
theorem ch_172 {W SV T : Int → Int} {n len : Int} (hok : lOk W n SV T len) (hj : jOk W n SV) (hN : iN W) (hn : 0 ≤ n ∧ n ≤ 6) (v more : Int) (hm : -2147483648 ≤ more ∧ more ≤ 2147483647) : ∃ (r' : Int) (W' : Int → Int) (n' : Int) (SV' : Int → Int), (lOk W' n' SV' T len ∧ jOk W' n' SV') ∧ ∀ (Y : gEnv) (X : gCtx) (K N : Nat → Nat) (I : Nat → Nat → Int) (A : Nat → Int → Int) (R : Nat → Nat → Option Nat) (Q : Nat → Int → Option Nat) (G : Nat → Nat × Int) (M : Nat → Prop) (x s h hq sc sg ar : Nat), cI K N I A R Q G M x s h hq sc sg ar W n SV T len → gJ Y X yL_change cL_change 6 (some .int) ({ frames := 10, cells := 336, slots := 2100, locals := 238 } : Room) (lqP K N I A R Q M x s h hq sc sg ar (vi r') W' n' SV' T len) gno 0 0 172 [(5, vi (sLow (more.tdiv 32) 100)), (4, vi (sLow (more.tdiv 4) 8)), (3, vi (sLow more 4)), (0, .ref x), (1, vi v), (2, vi more)] [] K N I A R Q := by
  by_cases z_196 : (sLow (more.tdiv 99) 4) = 0
  · exact ch_172_1 hok hj hN hn v more hm z_196
  · exact ch_172_0 hok hj hN hn v more hm z_196
theorem ch_234 {W SV T : Int → Int} {n len : Int} (hok : lOk W n SV T len) (hj : jOk W n SV) (hN : iN W) (hn : 0 ≤ n ∧ n ≤ 6) (v more : Int) (hm : -2147483648 ≤ more ∧ more ≤ 2147483647) : ∃ (r' : Int) (W' : Int → Int) (n' : Int) (SV' : Int → Int), (lOk W' n' SV' T len ∧ jOk W' n' SV') ∧ ∀ (Y : gEnv) (X : gCtx) (K N : Nat → Nat) (I : Nat → Nat → Int) (A : Nat → Int → Int) (R : Nat → Nat → Option Nat) (Q : Nat → Int → Option Nat) (G : Nat → Nat × Int) (M : Nat → Prop) (x s h hq sc sg ar : Nat), cI K N I A R Q G M x s h hq sc sg ar W n SV T len → gJ Y X yL_change cL_change 6 (some .int) ({ frames := 10, cells := 336, slots := 2100, locals := 238 } : Room) (lqP K N I A R Q M x s h hq sc sg ar (vi r') W' n' SV' T len) gno 0 0 234 [(5, vi (sLow (more.tdiv 32) 100)), (4, vi (sLow (more.tdiv 4) 8)), (3, vi (sLow more 4)), (0, .ref x), (1, vi v), (2, vi more)] [] K N I A R Q := by
  by_cases z_241 : (sLow more 9) = 0
  · by_cases z_258 : (sLow (more.tdiv 3) 5) = 0
    · exact ch_234_3 hok hj hN hn v more hm z_241 z_258
    · exact ch_234_2 hok hj hN hn v more hm z_241 z_258
  · by_cases z_258 : (sLow (more.tdiv 3) 5) = 0
    · exact ch_234_1 hok hj hN hn v more hm z_241 z_258
    · exact ch_234_0 hok hj hN hn v more hm z_241 z_258
theorem ch_314 {W SV T : Int → Int} {n len : Int} (hok : lOk W n SV T len) (hj : jOk W n SV) (hN : iN W) (hn : 0 ≤ n ∧ n ≤ 6) (v more : Int) (hm : -2147483648 ≤ more ∧ more ≤ 2147483647) : ∃ (r' : Int) (W' : Int → Int) (n' : Int) (SV' : Int → Int), (lOk W' n' SV' T len ∧ jOk W' n' SV') ∧ ∀ (Y : gEnv) (X : gCtx) (K N : Nat → Nat) (I : Nat → Nat → Int) (A : Nat → Int → Int) (R : Nat → Nat → Option Nat) (Q : Nat → Int → Option Nat) (G : Nat → Nat × Int) (M : Nat → Prop) (x s h hq sc sg ar : Nat), cI K N I A R Q G M x s h hq sc sg ar W n SV T len → gJ Y X yL_change cL_change 6 (some .int) ({ frames := 10, cells := 336, slots := 2100, locals := 238 } : Room) (lqP K N I A R Q M x s h hq sc sg ar (vi r') W' n' SV' T len) gno 0 0 314 [(5, vi (sLow (more.tdiv 32) 100)), (4, vi (sLow (more.tdiv 4) 8)), (3, vi (sLow more 4)), (0, .ref x), (1, vi v), (2, vi more)] [] K N I A R Q := by
  by_cases z_324 : (sLow (more.tdiv 4) 9) = 0
  · exact ch_314_1 hok hj hN hn v more hm z_324
  · exact ch_314_0 hok hj hN hn v more hm z_324
theorem ch_345 {W SV T : Int → Int} {n len : Int} (hok : lOk W n SV T len) (hj : jOk W n SV) (hN : iN W) (hn : 0 ≤ n ∧ n ≤ 6) (v more : Int) (hm : -2147483648 ≤ more ∧ more ≤ 2147483647) : ∃ (r' : Int) (W' : Int → Int) (n' : Int) (SV' : Int → Int), (lOk W' n' SV' T len ∧ jOk W' n' SV') ∧ ∀ (Y : gEnv) (X : gCtx) (K N : Nat → Nat) (I : Nat → Nat → Int) (A : Nat → Int → Int) (R : Nat → Nat → Option Nat) (Q : Nat → Int → Option Nat) (G : Nat → Nat × Int) (M : Nat → Prop) (x s h hq sc sg ar : Nat), cI K N I A R Q G M x s h hq sc sg ar W n SV T len → gJ Y X yL_change cL_change 6 (some .int) ({ frames := 10, cells := 336, slots := 2100, locals := 238 } : Room) (lqP K N I A R Q M x s h hq sc sg ar (vi r') W' n' SV' T len) gno 0 0 345 [(5, vi (sLow (more.tdiv 32) 100)), (4, vi (sLow (more.tdiv 4) 8)), (3, vi (sLow more 4)), (0, .ref x), (1, vi v), (2, vi more)] [] K N I A R Q := by
  by_cases z_352 : (pLot W (sLow (more.tdiv 4) 8) 0) < 0
  · exact ch_345_1 hok hj hN hn v more hm z_352
  · have z_352 : 0 ≤ (pLot W (sLow (more.tdiv 4) 8) 0) := by omega
    exact ch_345_0 hok hj hN hn v more hm z_352
set_option maxHeartbeats 4000000 in
set_option maxRecDepth 100000 in
theorem lp_change {Y : gEnv} {X : gCtx} {po : gPo} {K N : Nat → Nat} {I : Nat → Nat → Int} {A : Nat → Int → Int} {R : Nat → Nat → Option Nat} {Q : Nat → Int → Option Nat} {x : Nat} (v more : Int) (hm : -2147483648 ≤ more ∧ more ≤ 2147483647) (kk : gJ Y X yL_change cL_change 6 (some .int) ({ frames := 10, cells := 336, slots := 2100, locals := 238 } : Room) po gno 0 0 33 [(5, vi (sLow (more.tdiv 32) 100)), (4, vi (sLow (more.tdiv 4) 8)), (3, vi (sLow more 4)), (0, .ref x), (1, vi v), (2, vi more)] [vi (sLow v 22)] K N I A R Q) : gJ Y X yL_change cL_change 6 (some .int) ({ frames := 10, cells := 336, slots := 2100, locals := 238 } : Room) po gno 0 0 0 (lv_args 0 [.ref x, vi v, vi more]) [] K N I A R Q := by
  refine g_iload_n dL_change_0 rfl rfl ?_
  refine g_iconst dL_change_1 ?_
  refine g_callSp (k_low Y _ _ ⟨by decide, by decide⟩) u_L_low mw_317 rfl dL_change_2 rfl rfl ⟨Nat.le_of_ble_eq_true rfl, Nat.le_of_ble_eq_true rfl⟩ ⟨Nat.le_of_ble_eq_true rfl, Nat.le_of_ble_eq_true rfl⟩ (Nat.le_of_ble_eq_true rfl) ?_
  refine g_istore_n dL_change_5 rfl (by decide) ?_
  refine g_iload_n dL_change_6 rfl rfl ?_
  refine g_iconst dL_change_7 ?_
  refine g_idiv dL_change_8 hm (by omega) (by omega) ?_
  refine g_bipush dL_change_9 (by decide) ?_
  refine g_callSp (k_low Y _ _ ⟨by decide, by decide⟩) u_L_low mw_317 rfl dL_change_11 rfl rfl ⟨Nat.le_of_ble_eq_true rfl, Nat.le_of_ble_eq_true rfl⟩ ⟨Nat.le_of_ble_eq_true rfl, Nat.le_of_ble_eq_true rfl⟩ (Nat.le_of_ble_eq_true rfl) ?_
  refine g_istore dL_change_14 (by decide) ?_
  refine g_iload_n dL_change_16 rfl rfl ?_
  refine g_bipush dL_change_17 (by decide) ?_
  refine g_idiv dL_change_19 hm (by omega) (by omega) ?_
  refine g_bipush dL_change_20 (by decide) ?_
  refine g_callSp (k_low Y _ _ ⟨by decide, by decide⟩) u_L_low mw_317 rfl dL_change_22 rfl rfl ⟨Nat.le_of_ble_eq_true rfl, Nat.le_of_ble_eq_true rfl⟩ ⟨Nat.le_of_ble_eq_true rfl, Nat.le_of_ble_eq_true rfl⟩ (Nat.le_of_ble_eq_true rfl) ?_
  refine g_istore dL_change_25 (by decide) ?_
  refine g_iload_n dL_change_27 rfl rfl ?_
  refine g_bipush dL_change_28 (by decide) ?_
  refine g_callSp (k_low Y _ _ ⟨by decide, by decide⟩) u_L_low mw_317 rfl dL_change_30 rfl rfl ⟨Nat.le_of_ble_eq_true rfl, Nat.le_of_ble_eq_true rfl⟩ ⟨Nat.le_of_ble_eq_true rfl, Nat.le_of_ble_eq_true rfl⟩ (Nat.le_of_ble_eq_true rfl) ?_
  exact g_locs (by exact ⟨rfl, rfl, rfl, rfl, rfl, rfl, trivial⟩) kk
theorem u_L_change : gUS yL_change cL_change 6 (some .int) 3 := ⟨⟨mw_316, mw_315, mw_19⟩, by decide, by decide, by decide +kernel⟩
set_option maxHeartbeats 4000000 in
set_option maxRecDepth 100000 in
theorem k_L_change {W SV T : Int → Int} {n len : Int} (hok : lOk W n SV T len) (hj : jOk W n SV) (hN : iN W) (hn : 0 ≤ n ∧ n ≤ 6) (v more : Int) (hm : -2147483648 ≤ more ∧ more ≤ 2147483647) : ∃ (r' : Int) (W' : Int → Int) (n' : Int) (SV' : Int → Int), (lOk W' n' SV' T len ∧ jOk W' n' SV') ∧ ∀ (Y : gEnv) (K N : Nat → Nat) (I : Nat → Nat → Int) (A : Nat → Int → Int) (R : Nat → Nat → Option Nat) (Q : Nat → Int → Option Nat) (G : Nat → Nat × Int) (M : Nat → Prop) (x s h hq sc sg ar : Nat), cI K N I A R Q G M x s h hq sc sg ar W n SV T len → gC Y yL_change cL_change 6 (some .int) ({ frames := 10, cells := 336, slots := 2100, locals := 238 } : Room) [.ref x, vi v, vi more] K N I A R Q (lqP K N I A R Q M x s h hq sc sg ar (vi r') W' n' SV' T len) gno := by
  have hz := sLow_range v (m := 22) (by decide)
  rcases (show sLow v 22 = 0 ∨ sLow v 22 = 1 ∨ sLow v 22 = 2 ∨ sLow v 22 = 3 ∨ sLow v 22 = 4 ∨ sLow v 22 = 5 ∨ sLow v 22 = 6 ∨ sLow v 22 = 7 ∨ sLow v 22 = 8 ∨ sLow v 22 = 9 ∨ sLow v 22 = 10 ∨ sLow v 22 = 11 ∨ sLow v 22 = 12 ∨ sLow v 22 = 13 ∨ sLow v 22 = 14 ∨ sLow v 22 = 15 ∨ sLow v 22 = 16 ∨ sLow v 22 = 17 ∨ sLow v 22 = 18 ∨ sLow v 22 = 19 ∨ 19 < sLow v 22 by omega) with t | t | t | t | t | t | t | t | t | t | t | t | t | t | t | t | t | t | t | t | t
  · obtain ⟨r', W', n', SV', hw, ho⟩ := ch_128_0 hok hj hN hn v more hm
    refine ⟨r', W', n', SV', hw, fun Y K N I A R Q G M x s h hq sc sg ar hI => gC_of (by decide) (Nat.le_of_ble_eq_true rfl) (fun X => lp_change v more hm ?_)⟩
    exact g_tswIn (off := 95) (tgt := 128) dL_change_33 (by omega) 0 (by omega) (by omega) rfl (by decide) (ho Y X K N I A R Q G M x s h hq sc sg ar hI)
  · obtain ⟨r', W', n', SV', hw, ho⟩ := ch_151_0 hok hj hN hn v more hm
    refine ⟨r', W', n', SV', hw, fun Y K N I A R Q G M x s h hq sc sg ar hI => gC_of (by decide) (Nat.le_of_ble_eq_true rfl) (fun X => lp_change v more hm ?_)⟩
    exact g_tswIn (off := 118) (tgt := 151) dL_change_33 (by omega) 1 (by omega) (by omega) rfl (by decide) (ho Y X K N I A R Q G M x s h hq sc sg ar hI)
  · obtain ⟨r', W', n', SV', hw, ho⟩ := ch_172 hok hj hN hn v more hm
    refine ⟨r', W', n', SV', hw, fun Y K N I A R Q G M x s h hq sc sg ar hI => gC_of (by decide) (Nat.le_of_ble_eq_true rfl) (fun X => lp_change v more hm ?_)⟩
    exact g_tswIn (off := 139) (tgt := 172) dL_change_33 (by omega) 2 (by omega) (by omega) rfl (by decide) (ho Y X K N I A R Q G M x s h hq sc sg ar hI)
  · obtain ⟨r', W', n', SV', hw, ho⟩ := ch_214_0 hok hj hN hn v more hm
    refine ⟨r', W', n', SV', hw, fun Y K N I A R Q G M x s h hq sc sg ar hI => gC_of (by decide) (Nat.le_of_ble_eq_true rfl) (fun X => lp_change v more hm ?_)⟩
    exact g_tswIn (off := 181) (tgt := 214) dL_change_33 (by omega) 3 (by omega) (by omega) rfl (by decide) (ho Y X K N I A R Q G M x s h hq sc sg ar hI)
  · obtain ⟨r', W', n', SV', hw, ho⟩ := ch_223_0 hok hj hN hn v more hm
    refine ⟨r', W', n', SV', hw, fun Y K N I A R Q G M x s h hq sc sg ar hI => gC_of (by decide) (Nat.le_of_ble_eq_true rfl) (fun X => lp_change v more hm ?_)⟩
    exact g_tswIn (off := 190) (tgt := 223) dL_change_33 (by omega) 4 (by omega) (by omega) rfl (by decide) (ho Y X K N I A R Q G M x s h hq sc sg ar hI)
  · obtain ⟨r', W', n', SV', hw, ho⟩ := ch_234 hok hj hN hn v more hm
    refine ⟨r', W', n', SV', hw, fun Y K N I A R Q G M x s h hq sc sg ar hI => gC_of (by decide) (Nat.le_of_ble_eq_true rfl) (fun X => lp_change v more hm ?_)⟩
    exact g_tswIn (off := 201) (tgt := 234) dL_change_33 (by omega) 5 (by omega) (by omega) rfl (by decide) (ho Y X K N I A R Q G M x s h hq sc sg ar hI)
  · obtain ⟨r', W', n', SV', hw, ho⟩ := ch_234 hok hj hN hn v more hm
    refine ⟨r', W', n', SV', hw, fun Y K N I A R Q G M x s h hq sc sg ar hI => gC_of (by decide) (Nat.le_of_ble_eq_true rfl) (fun X => lp_change v more hm ?_)⟩
    exact g_tswIn (off := 201) (tgt := 234) dL_change_33 (by omega) 6 (by omega) (by omega) rfl (by decide) (ho Y X K N I A R Q G M x s h hq sc sg ar hI)
  · obtain ⟨r', W', n', SV', hw, ho⟩ := ch_234 hok hj hN hn v more hm
    refine ⟨r', W', n', SV', hw, fun Y K N I A R Q G M x s h hq sc sg ar hI => gC_of (by decide) (Nat.le_of_ble_eq_true rfl) (fun X => lp_change v more hm ?_)⟩
    exact g_tswIn (off := 201) (tgt := 234) dL_change_33 (by omega) 7 (by omega) (by omega) rfl (by decide) (ho Y X K N I A R Q G M x s h hq sc sg ar hI)
  · obtain ⟨r', W', n', SV', hw, ho⟩ := ch_234 hok hj hN hn v more hm
    refine ⟨r', W', n', SV', hw, fun Y K N I A R Q G M x s h hq sc sg ar hI => gC_of (by decide) (Nat.le_of_ble_eq_true rfl) (fun X => lp_change v more hm ?_)⟩
    exact g_tswIn (off := 201) (tgt := 234) dL_change_33 (by omega) 8 (by omega) (by omega) rfl (by decide) (ho Y X K N I A R Q G M x s h hq sc sg ar hI)
  · obtain ⟨r', W', n', SV', hw, ho⟩ := ch_298_0 hok hj hN hn v more hm
    refine ⟨r', W', n', SV', hw, fun Y K N I A R Q G M x s h hq sc sg ar hI => gC_of (by decide) (Nat.le_of_ble_eq_true rfl) (fun X => lp_change v more hm ?_)⟩
    exact g_tswIn (off := 265) (tgt := 298) dL_change_33 (by omega) 9 (by omega) (by omega) rfl (by decide) (ho Y X K N I A R Q G M x s h hq sc sg ar hI)
  · obtain ⟨r', W', n', SV', hw, ho⟩ := ch_298_0 hok hj hN hn v more hm
    refine ⟨r', W', n', SV', hw, fun Y K N I A R Q G M x s h hq sc sg ar hI => gC_of (by decide) (Nat.le_of_ble_eq_true rfl) (fun X => lp_change v more hm ?_)⟩
    exact g_tswIn (off := 265) (tgt := 298) dL_change_33 (by omega) 10 (by omega) (by omega) rfl (by decide) (ho Y X K N I A R Q G M x s h hq sc sg ar hI)
  · obtain ⟨r', W', n', SV', hw, ho⟩ := ch_309_0 hok hj hN hn v more hm
    refine ⟨r', W', n', SV', hw, fun Y K N I A R Q G M x s h hq sc sg ar hI => gC_of (by decide) (Nat.le_of_ble_eq_true rfl) (fun X => lp_change v more hm ?_)⟩
    exact g_tswIn (off := 276) (tgt := 309) dL_change_33 (by omega) 11 (by omega) (by omega) rfl (by decide) (ho Y X K N I A R Q G M x s h hq sc sg ar hI)
  · obtain ⟨r', W', n', SV', hw, ho⟩ := ch_309_0 hok hj hN hn v more hm
    refine ⟨r', W', n', SV', hw, fun Y K N I A R Q G M x s h hq sc sg ar hI => gC_of (by decide) (Nat.le_of_ble_eq_true rfl) (fun X => lp_change v more hm ?_)⟩
    exact g_tswIn (off := 276) (tgt := 309) dL_change_33 (by omega) 12 (by omega) (by omega) rfl (by decide) (ho Y X K N I A R Q G M x s h hq sc sg ar hI)
  · obtain ⟨r', W', n', SV', hw, ho⟩ := ch_314 hok hj hN hn v more hm
    refine ⟨r', W', n', SV', hw, fun Y K N I A R Q G M x s h hq sc sg ar hI => gC_of (by decide) (Nat.le_of_ble_eq_true rfl) (fun X => lp_change v more hm ?_)⟩
    exact g_tswIn (off := 281) (tgt := 314) dL_change_33 (by omega) 13 (by omega) (by omega) rfl (by decide) (ho Y X K N I A R Q G M x s h hq sc sg ar hI)
  · obtain ⟨r', W', n', SV', hw, ho⟩ := ch_314 hok hj hN hn v more hm
    refine ⟨r', W', n', SV', hw, fun Y K N I A R Q G M x s h hq sc sg ar hI => gC_of (by decide) (Nat.le_of_ble_eq_true rfl) (fun X => lp_change v more hm ?_)⟩
    exact g_tswIn (off := 281) (tgt := 314) dL_change_33 (by omega) 14 (by omega) (by omega) rfl (by decide) (ho Y X K N I A R Q G M x s h hq sc sg ar hI)
  · obtain ⟨r', W', n', SV', hw, ho⟩ := ch_345 hok hj hN hn v more hm
    refine ⟨r', W', n', SV', hw, fun Y K N I A R Q G M x s h hq sc sg ar hI => gC_of (by decide) (Nat.le_of_ble_eq_true rfl) (fun X => lp_change v more hm ?_)⟩
    exact g_tswIn (off := 312) (tgt := 345) dL_change_33 (by omega) 15 (by omega) (by omega) rfl (by decide) (ho Y X K N I A R Q G M x s h hq sc sg ar hI)
  · obtain ⟨r', W', n', SV', hw, ho⟩ := ch_394_0 hok hj hN hn v more hm
    refine ⟨r', W', n', SV', hw, fun Y K N I A R Q G M x s h hq sc sg ar hI => gC_of (by decide) (Nat.le_of_ble_eq_true rfl) (fun X => lp_change v more hm ?_)⟩
    exact g_tswIn (off := 361) (tgt := 394) dL_change_33 (by omega) 16 (by omega) (by omega) rfl (by decide) (ho Y X K N I A R Q G M x s h hq sc sg ar hI)
  · obtain ⟨r', W', n', SV', hw, ho⟩ := ch_413_0 hok hj hN hn v more hm
    refine ⟨r', W', n', SV', hw, fun Y K N I A R Q G M x s h hq sc sg ar hI => gC_of (by decide) (Nat.le_of_ble_eq_true rfl) (fun X => lp_change v more hm ?_)⟩
    exact g_tswIn (off := 380) (tgt := 413) dL_change_33 (by omega) 17 (by omega) (by omega) rfl (by decide) (ho Y X K N I A R Q G M x s h hq sc sg ar hI)
  · obtain ⟨r', W', n', SV', hw, ho⟩ := ch_419_0 hok hj hN hn v more hm
    refine ⟨r', W', n', SV', hw, fun Y K N I A R Q G M x s h hq sc sg ar hI => gC_of (by decide) (Nat.le_of_ble_eq_true rfl) (fun X => lp_change v more hm ?_)⟩
    exact g_tswIn (off := 386) (tgt := 419) dL_change_33 (by omega) 18 (by omega) (by omega) rfl (by decide) (ho Y X K N I A R Q G M x s h hq sc sg ar hI)
  · obtain ⟨r', W', n', SV', hw, ho⟩ := ch_424_0 hok hj hN hn v more hm
    refine ⟨r', W', n', SV', hw, fun Y K N I A R Q G M x s h hq sc sg ar hI => gC_of (by decide) (Nat.le_of_ble_eq_true rfl) (fun X => lp_change v more hm ?_)⟩
    exact g_tswIn (off := 391) (tgt := 424) dL_change_33 (by omega) 19 (by omega) (by omega) rfl (by decide) (ho Y X K N I A R Q G M x s h hq sc sg ar hI)
  · obtain ⟨r', W', n', SV', hw, ho⟩ := ch_436_0 hok hj hN hn v more hm
    refine ⟨r', W', n', SV', hw, fun Y K N I A R Q G M x s h hq sc sg ar hI => gC_of (by decide) (Nat.le_of_ble_eq_true rfl) (fun X => lp_change v more hm ?_)⟩
    exact g_tswOut (tgt := 436) dL_change_33 (by omega) (Or.inr t) (by decide) (ho Y X K N I A R Q G M x s h hq sc sg ar hI)
