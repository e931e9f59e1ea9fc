theorem iN_sW0 : iN sW0 := by
  refine ⟨fun g a b => ?_, fun i a b => ?_, fun i a b => ?_, ⟨by decide, by decide, fun p a b => ?_, fun p q a b c => ?_⟩, ⟨by decide, by decide, fun p a b => ?_, fun p q a b c => ?_⟩, ⟨by decide, by decide, fun p a b => ?_⟩, ⟨by decide, by decide, by decide, by decide, by decide, by decide, by decide, by decide, by decide, by decide⟩, by decide, by decide⟩
  · have h : g = 0 ∨ g = 1 ∨ g = 2 ∨ g = 3 := by omega
    rcases h with rfl | rfl | rfl | rfl <;> decide
  · have e1 : sW0 (16 + i) = 0 := by
      simp only [sW0]
      (repeat' split) <;> omega
    have e2 : sW0 (40 + i) = 0 := by
      simp only [sW0]
      (repeat' split) <;> omega
    rw [e1, e2]; decide
  · have e1 : sW0 (64 + i) = 0 := by
      simp only [sW0]
      (repeat' split) <;> omega
    have e2 : sW0 1610 = 0 := by decide
    rw [e1, e2]; decide
  · have e : sW0 1613 = 0 := by decide
    omega
  · have e : sW0 1613 = 0 := by decide
    omega
  · have e : sW0 1614 = 0 := by decide
    omega
  · have e : sW0 1614 = 0 := by decide
    omega
  · have e : sW0 1615 = 0 := by decide
    omega
theorem lOk_0 : lOk sW0 0 (fun _ => 0) (fun _ => 0) 0 := by
  refine ⟨fun l a b => ?_, fun j => ?_, ⟨fun j => ⟨by show (_ : Int) ≤ 0; decide, by show (0 : Int) ≤ _; decide⟩, fun i a b => by omega⟩, fun j a b => ⟨Int.le_refl _, by show (0 : Int) ≤ 126; decide⟩, by omega, by omega⟩
  · have e0 : sW0 1614 = 0 := by decide
    have e1 : sW0 (890 + l) = 0 := by
      simp only [sW0]
      (repeat' split) <;> omega
    have e2 : sW0 (1050 + l) = 0 := by
      simp only [sW0]
      (repeat' split) <;> omega
    have e3 : sW0 (1210 + l) = 0 := by
      simp only [sW0]
      (repeat' split) <;> omega
    exact ⟨e1, e2, e3⟩
  · simp only [sW0]
    (repeat' split) <;> omega
set_option maxHeartbeats 4000000 in
set_option maxRecDepth 100000 in
theorem k_A_init (Y : gEnv) {K N : Nat → Nat} {I : Nat → Nat → Int} {A : Nat → Int → Int} {R : Nat → Nat → Option Nat} {Q : Nat → Int → Option Nat} {x : Nat} (hK : K x = 10) {M : Nat → Prop} (hM0 : ∀ b, M b → K b ≠ 0 ∧ b ≠ x) : gC Y yX12_init cX12_init 1 none ({ frames := 3, cells := 322, slots := 2076, locals := 60 } : Room) [.ref x] K N I A R Q (fun v K' N' I' A' R' Q' => v = none ∧ ∃ (G' : Nat → Nat × Int) (s h hq sc sg ar : Nat), cI K' N' I' A' R' Q' G' M x s h hq sc sg ar sW0 0 (fun _ => 0) (fun _ => 0) 0 ∧ gFm M K N I A R Q K' N' I' A' R' Q') gno := by
  refine gC_of (by decide) (Nat.le_of_ble_eq_true rfl) (fun X => ?_)
  refine g_aload_n dX12_init_0 rfl rfl ?_
  refine g_objInit dX12_init_1 mw_49 mw_50 mw_51 (by decide) (by decide) ?_
  refine g_aload_n dX12_init_4 rfl rfl ?_
  refine g_new_State dX12_init_5 mw_52 mw_53 mw_21 (by decide) (by decide) (fun q5 K5 I5 R5 z5 hK5 hI5 hR5 => ?_)
  have k5x : K5 x = 10 := by rw [hK5, va_up_ne _ _ (fun e => by rw [e, z5] at hK; cases hK)]; exact hK
  have s5x : x ≠ q5 := fun e => by rw [e, z5] at hK; cases hK
  refine g_dup dX12_init_8 rfl ?_
  refine g_callI (k_N_State Y (G := fun b => (b, 0)) (by rw [hK5, va_up_self]) rfl (fun f => by rw [hI5, g_z_eq])) u_X10_init mw_54 dX12_init_9 rfl rfl ⟨Nat.le_of_ble_eq_true rfl, Nat.le_of_ble_eq_true rfl⟩ ⟨Nat.le_of_ble_eq_true rfl, Nat.le_of_ble_eq_true rfl⟩ (Nat.le_of_ble_eq_true rfl) (fun v9 K9 N9 I9 A9 R9 Q9 h9 => ?_)
  obtain ⟨rfl, G9, x9, z9, b9⟩ := h9
  have x9x := x9 x (by rw [k5x]; decide)
  have k9x : K9 x = 10 := x9x.1.trans k5x
  have g9x : G9 x = (x, 0) := x9x.2.2.1
  refine g_put_TileFactory_state dX12_init_12 mw_300 k9x rfl rfl (fun R12 hR12 => ?_)
  refine g_aload_n dX12_init_15 rfl rfl ?_
  refine g_new_History dX12_init_16 mw_254 mw_255 mw_28 (by decide) (by decide) (fun q16 K16 I16 R16 z16 hK16 hI16 hR16 => ?_)
  have n16 : x ≠ q16 := fun e => by rw [e, z16] at k9x; cases k9x
  have k16x : K16 x = 10 := by rw [hK16, va_up_ne _ _ n16]; exact k9x
  refine g_dup dX12_init_19 rfl ?_
  refine g_callIN (k_N_History Y (by rw [hK16, va_up_self])) u_X5_init mw_256 dX12_init_20 rfl rfl ⟨Nat.le_of_ble_eq_true rfl, Nat.le_of_ble_eq_true rfl⟩ ⟨Nat.le_of_ble_eq_true rfl, Nat.le_of_ble_eq_true rfl⟩ (Nat.le_of_ble_eq_true rfl) (fun v20 K20 N20 I20 A20 R20 Q20 h20 => ?_)
  obtain ⟨rfl, i20, a20, hq, zhq, k20, n20, q20, f20, r20, ef20⟩ := h20
  subst ef20
  have nhq : x ≠ hq := fun e => by rw [e, zhq] at k16x; cases k16x
  have k20x : K20 x = 10 := by rw [k20, va_up_ne _ _ nhq]; exact k16x
  refine g_put_TileFactory_history dX12_init_23 mw_301 k20x rfl rfl (fun R23 hR23 => ?_)
  refine g_aload_n dX12_init_26 rfl rfl ?_
  refine g_new_Script dX12_init_27 mw_270 mw_271 mw_29 (by decide) (by decide) (fun q27 K27 I27 R27 z27 hK27 hI27 hR27 => ?_)
  have n27 : x ≠ q27 := fun e => by rw [e, z27] at k20x; cases k20x
  have k27x : K27 x = 10 := by rw [hK27, va_up_ne _ _ n27]; exact k20x
  refine g_dup dX12_init_30 rfl ?_
  refine g_callIN (k_N_Script Y (by rw [hK27, va_up_self])) u_X9_init mw_272 dX12_init_31 rfl rfl ⟨Nat.le_of_ble_eq_true rfl, Nat.le_of_ble_eq_true rfl⟩ ⟨Nat.le_of_ble_eq_true rfl, Nat.le_of_ble_eq_true rfl⟩ (Nat.le_of_ble_eq_true rfl) (fun v31 K31 N31 I31 A31 R31 Q31 h31 => ?_)
  obtain ⟨rfl, i31, q31, sg, ar, zsg, zar, nsa, k31, n31, a31, r31⟩ := h31
  have nsg : x ≠ sg := fun e => by rw [e, zsg] at k27x; cases k27x
  have nar : x ≠ ar := fun e => by rw [e, zar] at k27x; cases k27x
  have k31x : K31 x = 10 := by rw [k31, va_up_ne _ _ nar, va_up_ne _ _ nsg]; exact k27x
  refine g_put_TileFactory_script dX12_init_34 mw_302 k31x rfl rfl (fun R34 hR34 => ?_)
  have kh16 : K16 q16 = 4 := by rw [hK16, va_up_self]
  have e1 : hq ≠ q16 := fun e => by rw [e, kh16] at zhq; cases zhq
  have kh20 : K20 q16 = 4 := by rw [k20, va_up_ne _ _ (fun e => e1 e.symm)]; exact kh16
  have kq20 : K20 hq = 20 := by rw [k20, va_up_self]
  have e2 : q27 ≠ q16 := fun e => by rw [e, kh20] at z27; cases z27
  have e3 : q27 ≠ hq := fun e => by rw [e, kq20] at z27; cases z27
  have kh27 : K27 q16 = 4 := by rw [hK27, va_up_ne _ _ (fun e => e2 e.symm)]; exact kh20
  have kq27 : K27 hq = 20 := by rw [hK27, va_up_ne _ _ (fun e => e3 e.symm)]; exact kq20
  have kc27 : K27 q27 = 8 := by rw [hK27, va_up_self]
  have e4 : sg ≠ q16 := fun e => by rw [e, kh27] at zsg; cases zsg
  have e5 : sg ≠ hq := fun e => by rw [e, kq27] at zsg; cases zsg
  have e6 : sg ≠ q27 := fun e => by rw [e, kc27] at zsg; cases zsg
  have e7 : ar ≠ q16 := fun e => by rw [e, kh27] at zar; cases zar
  have e8 : ar ≠ hq := fun e => by rw [e, kq27] at zar; cases zar
  have e9 : ar ≠ q27 := fun e => by rw [e, kc27] at zar; cases zar
  have kh : K31 q16 = 4 := by rw [k31, va_up_ne _ _ (fun e => e7 e.symm), va_up_ne _ _ (fun e => e4 e.symm)]; exact kh27
  have kq : K31 hq = 20 := by rw [k31, va_up_ne _ _ (fun e => e8 e.symm), va_up_ne _ _ (fun e => e5 e.symm)]; exact kq27
  have kc : K31 q27 = 8 := by rw [k31, va_up_ne _ _ (fun e => e9 e.symm), va_up_ne _ _ (fun e => e6 e.symm)]; exact kc27
  have kg : K31 sg = 12 := by rw [k31, va_up_ne _ _ nsa, va_up_self]
  have kr : K31 ar = 13 := by rw [k31, va_up_self]
  have nq : N31 hq = 6 := by rw [n31, va_up_ne _ _ (fun e => e8 e.symm), va_up_ne _ _ (fun e => e5 e.symm), n20, va_up_self]
  have ng : N31 sg = 100 := by rw [n31, va_up_ne _ _ nsa, va_up_self]
  have nr : N31 ar = 4 := by rw [n31, va_up_self]
  have zh9 : K9 q16 = 0 := z16
  have zq9 : K9 hq = 0 := by rw [hK16, va_up_ne _ _ e1] at zhq; exact zhq
  have zc9 : K9 q27 = 0 := by rw [k20, va_up_ne _ _ e3, hK16, va_up_ne _ _ e2] at z27; exact z27
  have zg9 : K9 sg = 0 := by rw [hK27, va_up_ne _ _ e6, k20, va_up_ne _ _ e5, hK16, va_up_ne _ _ e4] at zsg; exact zsg
  have zr9 : K9 ar = 0 := by rw [hK27, va_up_ne _ _ e9, k20, va_up_ne _ _ e8, hK16, va_up_ne _ _ e7] at zar; exact zar
  have gx : gEx x K9 N9 I9 A9 R9 Q9 G9 K31 N31 I31 A31 R34 Q31 G9 := fun b hb => by
    have b1 : b ≠ q16 := fun e => hb (by rw [e]; exact zh9)
    have b2 : b ≠ hq := fun e => hb (by rw [e]; exact zq9)
    have b3 : b ≠ q27 := fun e => hb (by rw [e]; exact zc9)
    have b4 : b ≠ sg := fun e => hb (by rw [e]; exact zg9)
    have b5 : b ≠ ar := fun e => hb (by rw [e]; exact zr9)
    refine ⟨by rw [k31, va_up_ne _ _ b5, va_up_ne _ _ b4, hK27, va_up_ne _ _ b3, k20, va_up_ne _ _ b2, hK16, va_up_ne _ _ b1], by rw [n31, va_up_ne _ _ b5, va_up_ne _ _ b4, n20, va_up_ne _ _ b2], rfl, fun hx => ⟨fun f => by rw [i31, hI27, g_z_ne _ _ _ b3, i20, hI16, g_z_ne _ _ _ b1], by rw [a31, g_zr_ne _ _ b5, g_zr_ne _ _ b4, a20], fun f => by rw [hR34, g_up_ne2 _ _ hx, r31, g_up_ne2 _ _ b3, g_up_ne2 _ _ b3, hR27, g_z_ne _ _ _ b3, hR23, g_up_ne2 _ _ hx, r20, g_up_ne2 _ _ b1, hR16, g_z_ne _ _ _ b1, hR12, g_up_ne2 _ _ hx], by rw [q31, q20, g_zr_ne _ _ b2]⟩⟩
  have kdx : sKd (K9 x) := by rw [k9x]; unfold sKd; omega
  obtain ⟨ev, kq_, nq_, hev, hev0⟩ := b9.2.2.2.2.2.2.2.1
  have st9 : cSt K9 N9 I9 R9 Q9 G9 q5 := ⟨b9.sh.1, b9.sh.2, ev, kq_, nq_, hev⟩
  have sv9 : cSv K9 N9 I9 A9 R9 Q9 G9 q5 sW0 := ⟨iN_sW0, b9.ag, ev, kq_, nq_, hev, hev0.trans (by decide), fun i a b => absurd (show i < 0 from b) (Int.not_lt.mpr a)⟩
  have zG : ∀ b, K31 b = 0 → G9 b = (b, 0) := fun b hb => z9 b (Decidable.byContradiction (fun e => e ((gx b e).1.symm.trans hb)))
  have r180 : R34 180 x = some q5 := by rw [hR34, g_up_ne1 _ _ (by decide), r31, g_up_ne2 _ _ n27, g_up_ne2 _ _ n27, hR27, g_z_ne _ _ _ n27, hR23, g_up_ne1 _ _ (by decide), r20, g_up_ne2 _ _ n16, hR16, g_z_ne _ _ _ n16, hR12, g_up_eq]
  have r181 : R34 181 x = some q16 := by rw [hR34, g_up_ne1 _ _ (by decide), r31, g_up_ne2 _ _ n27, g_up_ne2 _ _ n27, hR27, g_z_ne _ _ _ n27, hR23, g_up_eq]
  have r182 : R34 182 x = some q27 := by rw [hR34, g_up_eq]
  have r60 : R34 60 q16 = some hq := by rw [hR34, g_up_ne1 _ _ (by decide), r31, g_up_ne1 _ _ (by decide), g_up_ne1 _ _ (by decide), hR27, g_z_ne _ _ _ (fun e => e2 e.symm), hR23, g_up_ne1 _ _ (by decide), r20, g_up_eq]
  have r140 : R34 140 q27 = some sg := by rw [hR34, g_up_ne1 _ _ (by decide), r31, g_up_ne1 _ _ (by decide), g_up_eq]
  have r145 : R34 145 q27 = some ar := by rw [hR34, g_up_ne1 _ _ (by decide), r31, g_up_eq]
  have i61 : I31 61 q16 = 0 := by rw [i31, hI27, g_z_ne _ _ _ (fun e => e2 e.symm), i20, hI16, g_z_eq]
  have i141 : I31 141 q27 = 0 := by rw [i31, hI27, g_z_eq]
  have asg : A31 sg = fun _ => 0 := by rw [a31, g_zr_ne _ _ nsa]; funext j; exact g_zr_eq _ _ _ _
  have qhq : ∀ i, Q31 hq i = none := fun i => by rw [q31, q20, g_zr_eq]
  have y5 : ∀ b, M b → K5 b = K b ∧ b ≠ q5 := fun b hb => by
    have n5 : b ≠ q5 := fun e => (hM0 b hb).1 (by rw [e]; exact z5)
    exact ⟨by rw [hK5, va_up_ne _ _ n5], n5⟩
  have y9 : ∀ b, M b → K9 b ≠ 0 ∧ K9 b = K b := fun b hb => by
    have n5 := y5 b hb
    have h5 := x9 b (by rw [n5.1]; exact (hM0 b hb).1)
    exact ⟨by rw [h5.1, n5.1]; exact (hM0 b hb).1, h5.1.trans n5.1⟩
  have hfr : gFm M K N I A R Q K31 N31 I31 A31 R34 Q31 := fun b hb => by
    have n5 := y5 b hb
    have p1 := x9 b (by rw [n5.1]; exact (hM0 b hb).1)
    have p2 := p1.2.2.2 n5.2
    have p3 := gx b (y9 b hb).1
    have p4 := p3.2.2.2 (hM0 b hb).2
    exact ⟨p3.1.trans (y9 b hb).2, p3.2.1.trans p1.2.1, fun f => by rw [p4.1 f, p2.1 f, hI5, g_z_ne _ _ _ n5.2], p4.2.1.trans p2.2.1, fun f => by rw [p4.2.2.1 f, p2.2.2.1 f, hR5, g_z_ne _ _ _ n5.2], p4.2.2.2.trans p2.2.2.2⟩
  have hmc : ∀ b, M b → K31 b ≠ 0 ∧ (b ≠ q5 ∧ ∀ i, 0 ≤ i → i < 6 → Q31 hq i ≠ some b) ∧ (G9 b).1 = b ∧ b ≠ x ∧ b ≠ q16 ∧ b ≠ hq ∧ b ≠ q27 ∧ b ≠ sg ∧ b ≠ ar := fun b hb => by
    have n5 := y5 b hb
    have k9 := (y9 b hb).1
    have p1 := x9 b (by rw [n5.1]; exact (hM0 b hb).1)
    exact ⟨by rw [(hfr b hb).1]; exact (hM0 b hb).1, ⟨n5.2, fun i _ _ z => by rw [qhq i] at z; cases z⟩, by rw [p1.2.2.1], (hM0 b hb).2, fun e => k9 (by rw [e]; exact zh9), fun e => k9 (by rw [e]; exact zq9), fun e => k9 (by rw [e]; exact zc9), fun e => k9 (by rw [e]; exact zg9), fun e => k9 (by rw [e]; exact zr9)⟩
  have hfin : cI K31 N31 I31 A31 R34 Q31 G9 M x q5 q16 hq q27 sg ar sW0 0 (fun _ => 0) (fun _ => 0) 0 := ⟨⟨k31x, r180, r181, r182⟩, ⟨kh, r60, kq, nq, i61, Int.le_refl _, by decide⟩, ⟨⟨kc, r140, kg, ng, r145, kr, nr⟩, i141, asg⟩, st9.keep gx kdx, sv9.keep st9.1 gx kdx, ⟨fun i a b t e => absurd (e.symm.trans (qhq i)) (by simp), fun i a b => absurd b (Int.not_lt.mpr a)⟩, ⟨by rw [g9x], by rw [z9 _ zh9], by rw [z9 _ zq9], by rw [z9 _ zc9], by rw [z9 _ zg9], by rw [z9 _ zr9], zG⟩, hmc⟩
  exact g_vret dX12_init_37 rfl (by decide) (by decide) ⟨rfl, G9, q5, q16, hq, q27, sg, ar, hfin, hfr⟩
