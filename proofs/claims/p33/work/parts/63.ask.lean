/-! ===== ask: it changes nothing ===== -/
def lqA (K N : Nat → Nat) (I : Nat → Nat → Int) (A : Nat → Int → Int) (R : Nat → Nat → Option Nat) (Q : Nat → Int → Option Nat) (M : Nat → Prop) (x s h hq sc sg ar : Nat) (W : Int → Int) (n : Int) (SV T : Int → Int) (len : Int) : gPo := fun v K' N' I' A' R' Q' => (∃ z : Int, v = some (vi z)) ∧ ∃ G' : Nat → Nat × Int, cI K' N' I' A' R' Q' G' M x s h hq sc sg ar W n SV T len ∧ gFm M K N I A R Q K' N' I' A' R' Q'
set_option maxHeartbeats 4000000 in
set_option maxRecDepth 100000 in
theorem ak_52 {Y : gEnv} {X : gCtx} {K N : Nat → Nat} {I : Nat → Nat → Int} {A : Nat → Int → Int} {R : Nat → Nat → Option Nat} {Q : Nat → Int → Option Nat} {G : Nat → Nat × Int} {M : Nat → Prop} {x s h hq sc sg ar : Nat} {W SV T : Int → Int} {n len : Int} (hI : cI K N I A R Q G M x s h hq sc sg ar W n SV T len) (hok : lOk W n SV T len) (v more : Int) (hm : -2147483648 ≤ more ∧ more ≤ 2147483647) : gJ Y X yL_ask cL_ask 4 (some .int) ({ frames := 10, cells := 4, slots := 18, locals := 277 } : Room) (lqA K N I A R Q M x s h hq sc sg ar W n SV T len) gno 0 0 52 [(3, vi (sLow more 4)), (0, .ref x), (1, vi v), (2, vi more)] [] K N I A R Q := by
  have e_0 := sLow_range more (m := 4) (by decide)
  have e_1 := sLow_range (more.tdiv 4) (m := 9) (by decide)
  have e_2 := sLow_range (more.tdiv 36) (m := 403) (by decide)
  refine g_aload_n dL_ask_52 rfl rfl ?_
  refine g_iload_n dL_ask_53 rfl rfl ?_
  refine g_iload_n dL_ask_54 rfl rfl ?_
  refine g_iconst dL_ask_55 ?_
  refine g_idiv dL_ask_56 (by omega) (by omega) (by omega) ?_
  refine g_bipush dL_ask_57 (by decide) ?_
  refine g_callSp (k_low Y _ _ ⟨by decide, by decide⟩) u_L_low mw_317 rfl dL_ask_59 rfl rfl ⟨Nat.le_of_ble_eq_true rfl, Nat.le_of_ble_eq_true rfl⟩ ⟨Nat.le_of_ble_eq_true rfl, Nat.le_of_ble_eq_true rfl⟩ (Nat.le_of_ble_eq_true rfl) ?_
  refine g_iload_n dL_ask_62 rfl rfl ?_
  refine g_sipush dL_ask_63 (by decide) ?_
  refine g_iload_n dL_ask_66 rfl rfl ?_
  refine g_bipush dL_ask_67 (by decide) ?_
  refine g_idiv dL_ask_69 (by omega) (by omega) (by omega) ?_
  refine g_sipush dL_ask_70 (by decide) ?_
  refine g_callSp (k_low Y _ _ ⟨by decide, by decide⟩) u_L_low mw_317 rfl dL_ask_73 rfl rfl ⟨Nat.le_of_ble_eq_true rfl, Nat.le_of_ble_eq_true rfl⟩ ⟨Nat.le_of_ble_eq_true rfl, Nat.le_of_ble_eq_true rfl⟩ (Nat.le_of_ble_eq_true rfl) ?_
  refine g_iadd dL_ask_76 ?_
  refine g_callH (k_L_shadeAt Y hI (sLow more 4) (sLow (more.tdiv 4) 9) (sLow more 4) (799 + (sLow (more.tdiv 36) 403)) (cd2r _ _) (k_A_shadeAt Y hI (sLow more 4) (by omega) (sLow (more.tdiv 4) 9) (by omega) (sLow more 4) (by omega) (799 + (sLow (more.tdiv 36) 403)) (by omega))) u_L_shadeAt mw_792 dL_ask_77 rfl rfl ⟨Nat.le_of_ble_eq_true rfl, Nat.le_of_ble_eq_true rfl⟩ ⟨Nat.le_of_ble_eq_true rfl, Nat.le_of_ble_eq_true rfl⟩ (Nat.le_of_ble_eq_true rfl) (fun v1 K1 N1 I1 A1 R1 Q1 hp1 => ?_)
  obtain ⟨rfl, G1, hI1, hf1⟩ := hp1
  exact g_iret dL_ask_80 rfl (by decide) (by decide) ⟨⟨_, rfl⟩, G1, hI1, hf1⟩
set_option maxHeartbeats 4000000 in
set_option maxRecDepth 100000 in
theorem ak_81 {Y : gEnv} {X : gCtx} {K N : Nat → Nat} {I : Nat → Nat → Int} {A : Nat → Int → Int} {R : Nat → Nat → Option Nat} {Q : Nat → Int → Option Nat} {G : Nat → Nat × Int} {M : Nat → Prop} {x s h hq sc sg ar : Nat} {W SV T : Int → Int} {n len : Int} (hI : cI K N I A R Q G M x s h hq sc sg ar W n SV T len) (hok : lOk W n SV T len) (v more : Int) (hm : -2147483648 ≤ more ∧ more ≤ 2147483647) : gJ Y X yL_ask cL_ask 4 (some .int) ({ frames := 10, cells := 4, slots := 18, locals := 277 } : Room) (lqA K N I A R Q M x s h hq sc sg ar W n SV T len) gno 0 0 81 [(3, vi (sLow more 4)), (0, .ref x), (1, vi v), (2, vi more)] [] K N I A R Q := by
  have e_0 := sLow_range more (m := 4) (by decide)
  have e_1 := tm_range (sLow more 4) (m := 3) (by omega) (by decide)
  have e_2 := sLow_range (more.tdiv 4) (m := 4) (by decide)
  have e_3 := sLow_range (more.tdiv 16) (m := 21) (by decide)
  refine g_aload_n dL_ask_81 rfl rfl ?_
  refine g_iload_n dL_ask_82 rfl rfl ?_
  refine g_iconst dL_ask_83 ?_
  refine g_irem dL_ask_84 (by omega) (by omega) (by omega) ?_
  refine g_iload_n dL_ask_85 rfl rfl ?_
  refine g_iconst dL_ask_86 ?_
  refine g_idiv dL_ask_87 (by omega) (by omega) (by omega) ?_
  refine g_iconst dL_ask_88 ?_
  refine g_callSp (k_low Y _ _ ⟨by decide, by decide⟩) u_L_low mw_317 rfl dL_ask_89 rfl rfl ⟨Nat.le_of_ble_eq_true rfl, Nat.le_of_ble_eq_true rfl⟩ ⟨Nat.le_of_ble_eq_true rfl, Nat.le_of_ble_eq_true rfl⟩ (Nat.le_of_ble_eq_true rfl) ?_
  refine g_iload_n dL_ask_92 rfl rfl ?_
  refine g_bipush dL_ask_93 (by decide) ?_
  refine g_idiv dL_ask_95 (by omega) (by omega) (by omega) ?_
  refine g_bipush dL_ask_96 (by decide) ?_
  refine g_callSp (k_low Y _ _ ⟨by decide, by decide⟩) u_L_low mw_317 rfl dL_ask_98 rfl rfl ⟨Nat.le_of_ble_eq_true rfl, Nat.le_of_ble_eq_true rfl⟩ ⟨Nat.le_of_ble_eq_true rfl, Nat.le_of_ble_eq_true rfl⟩ (Nat.le_of_ble_eq_true rfl) ?_
  refine g_callH (k_L_bestPeak Y hI ((sLow more 4).tmod 3) (sLow (more.tdiv 4) 4) (sLow (more.tdiv 16) 21) (cd2r _ _) (k_A_bestPeak Y hI ((sLow more 4).tmod 3) (by omega) (sLow (more.tdiv 4) 4) (by omega) (sLow (more.tdiv 16) 21) (by omega))) u_L_bestPeak mw_802 dL_ask_101 rfl rfl ⟨Nat.le_of_ble_eq_true rfl, Nat.le_of_ble_eq_true rfl⟩ ⟨Nat.le_of_ble_eq_true rfl, Nat.le_of_ble_eq_true rfl⟩ (Nat.le_of_ble_eq_true rfl) (fun v1 K1 N1 I1 A1 R1 Q1 hp1 => ?_)
  obtain ⟨rfl, G1, hI1, hf1⟩ := hp1
  exact g_iret dL_ask_104 rfl (by decide) (by decide) ⟨⟨_, rfl⟩, G1, hI1, hf1⟩
set_option maxHeartbeats 4000000 in
set_option maxRecDepth 100000 in
theorem ak_105 {Y : gEnv} {X : gCtx} {K N : Nat → Nat} {I : Nat → Nat → Int} {A : Nat → Int → Int} {R : Nat → Nat → Option Nat} {Q : Nat → Int → Option Nat} {G : Nat → Nat × Int} {M : Nat → Prop} {x s h hq sc sg ar : Nat} {W SV T : Int → Int} {n len : Int} (hI : cI K N I A R Q G M x s h hq sc sg ar W n SV T len) (hok : lOk W n SV T len) (v more : Int) (hm : -2147483648 ≤ more ∧ more ≤ 2147483647) : gJ Y X yL_ask cL_ask 4 (some .int) ({ frames := 10, cells := 4, slots := 18, locals := 277 } : Room) (lqA K N I A R Q M x s h hq sc sg ar W n SV T len) gno 0 0 105 [(3, vi (sLow more 4)), (0, .ref x), (1, vi v), (2, vi more)] [] K N I A R Q := by
  have e_0 := sLow_range more (m := 4) (by decide)
  have e_1 := sLow_range (more.tdiv 4) (m := 3) (by decide)
  refine g_aload_n dL_ask_105 rfl rfl ?_
  refine g_iload_n dL_ask_106 rfl rfl ?_
  refine g_iload_n dL_ask_107 rfl rfl ?_
  refine g_iconst dL_ask_108 ?_
  refine g_idiv dL_ask_109 (by omega) (by omega) (by omega) ?_
  refine g_iconst dL_ask_110 ?_
  refine g_callSp (k_low Y _ _ ⟨by decide, by decide⟩) u_L_low mw_317 rfl dL_ask_111 rfl rfl ⟨Nat.le_of_ble_eq_true rfl, Nat.le_of_ble_eq_true rfl⟩ ⟨Nat.le_of_ble_eq_true rfl, Nat.le_of_ble_eq_true rfl⟩ (Nat.le_of_ble_eq_true rfl) ?_
  refine g_callH (k_L_largest Y hI (sLow more 4) (sLow (more.tdiv 4) 3) (cd2r _ _) (k_A_largest Y hI (sLow more 4) (by omega) (sLow (more.tdiv 4) 3) (by omega))) u_L_largest mw_816 dL_ask_114 rfl rfl ⟨Nat.le_of_ble_eq_true rfl, Nat.le_of_ble_eq_true rfl⟩ ⟨Nat.le_of_ble_eq_true rfl, Nat.le_of_ble_eq_true rfl⟩ (Nat.le_of_ble_eq_true rfl) (fun v1 K1 N1 I1 A1 R1 Q1 hp1 => ?_)
  obtain ⟨rfl, G1, hI1, hf1⟩ := hp1
  exact g_iret dL_ask_117 rfl (by decide) (by decide) ⟨⟨_, rfl⟩, G1, hI1, hf1⟩
set_option maxHeartbeats 4000000 in
set_option maxRecDepth 100000 in
theorem ak_118 {Y : gEnv} {X : gCtx} {K N : Nat → Nat} {I : Nat → Nat → Int} {A : Nat → Int → Int} {R : Nat → Nat → Option Nat} {Q : Nat → Int → Option Nat} {G : Nat → Nat × Int} {M : Nat → Prop} {x s h hq sc sg ar : Nat} {W SV T : Int → Int} {n len : Int} (hI : cI K N I A R Q G M x s h hq sc sg ar W n SV T len) (hok : lOk W n SV T len) (v more : Int) (hm : -2147483648 ≤ more ∧ more ≤ 2147483647) : gJ Y X yL_ask cL_ask 4 (some .int) ({ frames := 10, cells := 4, slots := 18, locals := 277 } : Room) (lqA K N I A R Q M x s h hq sc sg ar W n SV T len) gno 0 0 118 [(3, vi (sLow more 4)), (0, .ref x), (1, vi v), (2, vi more)] [] K N I A R Q := by
  have e_0 := sLow_range more (m := 4) (by decide)
  have e_1 := sLow_range (more.tdiv 4) (m := 9) (by decide)
  have e_2 := sLow_range (more.tdiv 36) (m := 9) (by decide)
  have e_3 := sLow_range (more.tdiv 324) (m := 9) (by decide)
  refine g_aload_n dL_ask_118 rfl rfl ?_
  refine g_iload_n dL_ask_119 rfl rfl ?_
  refine g_iconst dL_ask_120 ?_
  refine g_iconst dL_ask_121 ?_
  refine g_iload_n dL_ask_122 rfl rfl ?_
  refine g_iconst dL_ask_123 ?_
  refine g_idiv dL_ask_124 (by omega) (by omega) (by omega) ?_
  refine g_bipush dL_ask_125 (by decide) ?_
  refine g_callSp (k_low Y _ _ ⟨by decide, by decide⟩) u_L_low mw_317 rfl dL_ask_127 rfl rfl ⟨Nat.le_of_ble_eq_true rfl, Nat.le_of_ble_eq_true rfl⟩ ⟨Nat.le_of_ble_eq_true rfl, Nat.le_of_ble_eq_true rfl⟩ (Nat.le_of_ble_eq_true rfl) ?_
  refine g_iadd dL_ask_130 ?_
  refine g_iconst dL_ask_131 ?_
  refine g_iload_n dL_ask_132 rfl rfl ?_
  refine g_bipush dL_ask_133 (by decide) ?_
  refine g_idiv dL_ask_135 (by omega) (by omega) (by omega) ?_
  refine g_bipush dL_ask_136 (by decide) ?_
  refine g_callSp (k_low Y _ _ ⟨by decide, by decide⟩) u_L_low mw_317 rfl dL_ask_138 rfl rfl ⟨Nat.le_of_ble_eq_true rfl, Nat.le_of_ble_eq_true rfl⟩ ⟨Nat.le_of_ble_eq_true rfl, Nat.le_of_ble_eq_true rfl⟩ (Nat.le_of_ble_eq_true rfl) ?_
  refine g_iadd dL_ask_141 ?_
  refine g_iload_n dL_ask_142 rfl rfl ?_
  refine g_sipush dL_ask_143 (by decide) ?_
  refine g_idiv dL_ask_146 (by omega) (by omega) (by omega) ?_
  refine g_bipush dL_ask_147 (by decide) ?_
  refine g_callSp (k_low Y _ _ ⟨by decide, by decide⟩) u_L_low mw_317 rfl dL_ask_149 rfl rfl ⟨Nat.le_of_ble_eq_true rfl, Nat.le_of_ble_eq_true rfl⟩ ⟨Nat.le_of_ble_eq_true rfl, Nat.le_of_ble_eq_true rfl⟩ (Nat.le_of_ble_eq_true rfl) ?_
  refine g_callH (k_L_possible Y hI (sLow more 4) 1 (1 + (sLow (more.tdiv 4) 9)) (1 + (sLow (more.tdiv 36) 9)) (sLow (more.tdiv 324) 9) (cd2r _ _) (k_A_possible Y hI (sLow more 4) (by omega) 1 (by omega) (1 + (sLow (more.tdiv 4) 9)) (by omega) (1 + (sLow (more.tdiv 36) 9)) (by omega) (sLow (more.tdiv 324) 9) (by omega))) u_L_possible mw_831 dL_ask_152 rfl rfl ⟨Nat.le_of_ble_eq_true rfl, Nat.le_of_ble_eq_true rfl⟩ ⟨Nat.le_of_ble_eq_true rfl, Nat.le_of_ble_eq_true rfl⟩ (Nat.le_of_ble_eq_true rfl) (fun v1 K1 N1 I1 A1 R1 Q1 hp1 => ?_)
  obtain ⟨rfl, G1, hI1, hf1⟩ := hp1
  exact g_iret dL_ask_155 rfl (by decide) (by decide) ⟨⟨_, rfl⟩, G1, hI1, hf1⟩
set_option maxHeartbeats 4000000 in
set_option maxRecDepth 100000 in
theorem ak_156 {Y : gEnv} {X : gCtx} {K N : Nat → Nat} {I : Nat → Nat → Int} {A : Nat → Int → Int} {R : Nat → Nat → Option Nat} {Q : Nat → Int → Option Nat} {G : Nat → Nat × Int} {M : Nat → Prop} {x s h hq sc sg ar : Nat} {W SV T : Int → Int} {n len : Int} (hI : cI K N I A R Q G M x s h hq sc sg ar W n SV T len) (hok : lOk W n SV T len) (v more : Int) (hm : -2147483648 ≤ more ∧ more ≤ 2147483647) : gJ Y X yL_ask cL_ask 4 (some .int) ({ frames := 10, cells := 4, slots := 18, locals := 277 } : Room) (lqA K N I A R Q M x s h hq sc sg ar W n SV T len) gno 0 0 156 [(3, vi (sLow more 4)), (0, .ref x), (1, vi v), (2, vi more)] [] K N I A R Q := by
  have e_0 := sLow_range more (m := 4) (by decide)
  have e_1 := sLow_range more (m := 12) (by decide)
  refine g_aload_n dL_ask_156 rfl rfl ?_
  refine g_iload_n dL_ask_157 rfl rfl ?_
  refine g_bipush dL_ask_158 (by decide) ?_
  refine g_callSp (k_low Y _ _ ⟨by decide, by decide⟩) u_L_low mw_317 rfl dL_ask_160 rfl rfl ⟨Nat.le_of_ble_eq_true rfl, Nat.le_of_ble_eq_true rfl⟩ ⟨Nat.le_of_ble_eq_true rfl, Nat.le_of_ble_eq_true rfl⟩ (Nat.le_of_ble_eq_true rfl) ?_
  refine g_callH (k_L_wouldHide Y hI (sLow more 12) (cd1r _) (k_A_wouldHide Y hI (sLow more 12) (by omega))) u_L_wouldHide mw_843 dL_ask_163 rfl rfl ⟨Nat.le_of_ble_eq_true rfl, Nat.le_of_ble_eq_true rfl⟩ ⟨Nat.le_of_ble_eq_true rfl, Nat.le_of_ble_eq_true rfl⟩ (Nat.le_of_ble_eq_true rfl) (fun v1 K1 N1 I1 A1 R1 Q1 hp1 => ?_)
  obtain ⟨rfl, G1, hI1, hf1⟩ := hp1
  exact g_iret dL_ask_166 rfl (by decide) (by decide) ⟨⟨_, rfl⟩, G1, hI1, hf1⟩
set_option maxHeartbeats 4000000 in
set_option maxRecDepth 100000 in
theorem ak_167 {Y : gEnv} {X : gCtx} {K N : Nat → Nat} {I : Nat → Nat → Int} {A : Nat → Int → Int} {R : Nat → Nat → Option Nat} {Q : Nat → Int → Option Nat} {G : Nat → Nat × Int} {M : Nat → Prop} {x s h hq sc sg ar : Nat} {W SV T : Int → Int} {n len : Int} (hI : cI K N I A R Q G M x s h hq sc sg ar W n SV T len) (hok : lOk W n SV T len) (v more : Int) (hm : -2147483648 ≤ more ∧ more ≤ 2147483647) : gJ Y X yL_ask cL_ask 4 (some .int) ({ frames := 10, cells := 4, slots := 18, locals := 277 } : Room) (lqA K N I A R Q M x s h hq sc sg ar W n SV T len) gno 0 0 167 [(3, vi (sLow more 4)), (0, .ref x), (1, vi v), (2, vi more)] [] K N I A R Q := by
  have e_0 := sLow_range more (m := 4) (by decide)
  have e_1 := sLow_range more (m := 22) (by decide)
  have e_2 := sLow_range (more.tdiv 22) (m := 3) (by decide)
  refine g_aload_n dL_ask_167 rfl rfl ?_
  refine g_iload_n dL_ask_168 rfl rfl ?_
  refine g_bipush dL_ask_169 (by decide) ?_
  refine g_callSp (k_low Y _ _ ⟨by decide, by decide⟩) u_L_low mw_317 rfl dL_ask_171 rfl rfl ⟨Nat.le_of_ble_eq_true rfl, Nat.le_of_ble_eq_true rfl⟩ ⟨Nat.le_of_ble_eq_true rfl, Nat.le_of_ble_eq_true rfl⟩ (Nat.le_of_ble_eq_true rfl) ?_
  refine g_iconst dL_ask_174 ?_
  refine g_isub dL_ask_175 ?_
  refine g_iload_n dL_ask_176 rfl rfl ?_
  refine g_bipush dL_ask_177 (by decide) ?_
  refine g_idiv dL_ask_179 (by omega) (by omega) (by omega) ?_
  refine g_iconst dL_ask_180 ?_
  refine g_callSp (k_low Y _ _ ⟨by decide, by decide⟩) u_L_low mw_317 rfl dL_ask_181 rfl rfl ⟨Nat.le_of_ble_eq_true rfl, Nat.le_of_ble_eq_true rfl⟩ ⟨Nat.le_of_ble_eq_true rfl, Nat.le_of_ble_eq_true rfl⟩ (Nat.le_of_ble_eq_true rfl) ?_
  refine g_callH (k_L_event Y hI ((sLow more 22) - 1) (sLow (more.tdiv 22) 3) (cd1r _) (k_A_event Y hI ((sLow more 22) - 1) (by omega) (sLow (more.tdiv 22) 3) (by omega))) u_L_event mw_854 dL_ask_184 rfl rfl ⟨Nat.le_of_ble_eq_true rfl, Nat.le_of_ble_eq_true rfl⟩ ⟨Nat.le_of_ble_eq_true rfl, Nat.le_of_ble_eq_true rfl⟩ (Nat.le_of_ble_eq_true rfl) (fun v1 K1 N1 I1 A1 R1 Q1 hp1 => ?_)
  obtain ⟨rfl, G1, hI1, hf1⟩ := hp1
  exact g_iret dL_ask_187 rfl (by decide) (by decide) ⟨⟨_, rfl⟩, G1, hI1, hf1⟩
set_option maxHeartbeats 4000000 in
set_option maxRecDepth 100000 in
theorem ak_188 {Y : gEnv} {X : gCtx} {K N : Nat → Nat} {I : Nat → Nat → Int} {A : Nat → Int → Int} {R : Nat → Nat → Option Nat} {Q : Nat → Int → Option Nat} {G : Nat → Nat × Int} {M : Nat → Prop} {x s h hq sc sg ar : Nat} {W SV T : Int → Int} {n len : Int} (hI : cI K N I A R Q G M x s h hq sc sg ar W n SV T len) (hok : lOk W n SV T len) (v more : Int) (hm : -2147483648 ≤ more ∧ more ≤ 2147483647) : gJ Y X yL_ask cL_ask 4 (some .int) ({ frames := 10, cells := 4, slots := 18, locals := 277 } : Room) (lqA K N I A R Q M x s h hq sc sg ar W n SV T len) gno 0 0 188 [(3, vi (sLow more 4)), (0, .ref x), (1, vi v), (2, vi more)] [] K N I A R Q := by
  have e_0 := sLow_range more (m := 4) (by decide)
  refine g_aload_n dL_ask_188 rfl rfl ?_
  refine g_callV0 (i := 9) rfl (gK0 hI.1.1) (g_at9 hI.1.1) (k_A_firstError Y hI hok.2.2.2.2 hok.2.2.2.1) u_X12_firstError mw_873 dL_ask_189 rfl rfl ⟨Nat.le_of_ble_eq_true rfl, Nat.le_of_ble_eq_true rfl⟩ ⟨Nat.le_of_ble_eq_true rfl, Nat.le_of_ble_eq_true rfl⟩ (Nat.le_of_ble_eq_true rfl) (fun E K9 N9 I9 A9 R9 Q9 hz => hz.1 rfl) (fun v1 K1 N1 I1 A1 R1 Q1 hp1 => ?_)
  obtain ⟨-, rfl, G1, hI1, hf1⟩ := hp1
  exact g_iret dL_ask_192 rfl (by decide) (by decide) ⟨⟨_, rfl⟩, G1, hI1, hf1⟩
theorem u_L_ask : gUS yL_ask cL_ask 4 (some .int) 3 := ⟨⟨mw_791, mw_790, mw_19⟩, by decide, by decide, by decide +kernel⟩
set_option maxHeartbeats 4000000 in
set_option maxRecDepth 100000 in
theorem k_L_ask (Y : gEnv) {K N : Nat → Nat} {I : Nat → Nat → Int} {A : Nat → Int → Int} {R : Nat → Nat → Option Nat} {Q : Nat → Int → Option Nat} {G : Nat → Nat × Int} {M : Nat → Prop} {x s h hq sc sg ar : Nat} {W SV T : Int → Int} {n len : Int} (hI : cI K N I A R Q G M x s h hq sc sg ar W n SV T len) (hok : lOk W n SV T len) (v more : Int) (hm : -2147483648 ≤ more ∧ more ≤ 2147483647) : gC Y yL_ask cL_ask 4 (some .int) ({ frames := 10, cells := 4, slots := 18, locals := 277 } : Room) [.ref x, vi v, vi more] K N I A R Q (lqA K N I A R Q M x s h hq sc sg ar W n SV T len) gno := by
  have hz := sLow_range v (m := 7) (by decide)
  refine gC_of (by decide) (Nat.le_of_ble_eq_true rfl) (fun X => ?_)
  refine g_iload_n dL_ask_0 rfl rfl ?_
  refine g_iconst dL_ask_1 ?_
  refine g_callSp (k_low Y _ _ ⟨by decide, by decide⟩) u_L_low mw_317 rfl dL_ask_2 rfl rfl ⟨Nat.le_of_ble_eq_true rfl, Nat.le_of_ble_eq_true rfl⟩ ⟨Nat.le_of_ble_eq_true rfl, Nat.le_of_ble_eq_true rfl⟩ (Nat.le_of_ble_eq_true rfl) ?_
  refine g_istore_n dL_ask_5 rfl (by decide) ?_
  refine g_iload_n dL_ask_6 rfl rfl ?_
  refine g_bipush dL_ask_7 (by decide) ?_
  refine g_callSp (k_low Y _ _ ⟨by decide, by decide⟩) u_L_low mw_317 rfl dL_ask_9 rfl rfl ⟨Nat.le_of_ble_eq_true rfl, Nat.le_of_ble_eq_true rfl⟩ ⟨Nat.le_of_ble_eq_true rfl, Nat.le_of_ble_eq_true rfl⟩ (Nat.le_of_ble_eq_true rfl) ?_
  refine g_locs (L' := [(3, vi (sLow more 4)), (0, .ref x), (1, vi v), (2, vi more)]) (by exact ⟨rfl, rfl, rfl, rfl, trivial⟩) ?_
  rcases (show sLow v 7 = 0 ∨ sLow v 7 = 1 ∨ sLow v 7 = 2 ∨ sLow v 7 = 3 ∨ sLow v 7 = 4 ∨ sLow v 7 = 5 ∨ 5 < sLow v 7 by omega) with t | t | t | t | t | t | t
  · exact g_tswIn (off := 40) (tgt := 52) dL_ask_12 (by omega) 0 (by omega) (by omega) rfl (by decide) (ak_52 hI hok v more hm)
  · exact g_tswIn (off := 69) (tgt := 81) dL_ask_12 (by omega) 1 (by omega) (by omega) rfl (by decide) (ak_81 hI hok v more hm)
  · exact g_tswIn (off := 93) (tgt := 105) dL_ask_12 (by omega) 2 (by omega) (by omega) rfl (by decide) (ak_105 hI hok v more hm)
  · exact g_tswIn (off := 106) (tgt := 118) dL_ask_12 (by omega) 3 (by omega) (by omega) rfl (by decide) (ak_118 hI hok v more hm)
  · exact g_tswIn (off := 144) (tgt := 156) dL_ask_12 (by omega) 4 (by omega) (by omega) rfl (by decide) (ak_156 hI hok v more hm)
  · exact g_tswIn (off := 155) (tgt := 167) dL_ask_12 (by omega) 5 (by omega) (by omega) rfl (by decide) (ak_167 hI hok v more hm)
  · exact g_tswOut (tgt := 188) dL_ask_12 (by omega) (Or.inr t) (by decide) (ak_188 hI hok v more hm)
