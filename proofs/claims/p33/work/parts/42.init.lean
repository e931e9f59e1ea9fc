/-- what was there stays, but for a's own fields and places -/
def gEx (a : Nat) (K N : Nat → Nat) (I : Nat → Nat → Int) (A : Nat → Int → Int) (R : Nat → Nat → Option Nat) (Q : Nat → Int → Option Nat) (G : Nat → Nat × Int) (K' N' : Nat → Nat) (I' : Nat → Nat → Int) (A' : Nat → Int → Int) (R' : Nat → Nat → Option Nat) (Q' : Nat → Int → Option Nat) (G' : Nat → Nat × Int) : Prop := ∀ b, K b ≠ 0 → K' b = K b ∧ N' b = N b ∧ G' b = G b ∧ (b ≠ a → (∀ f, I' f b = I f b) ∧ A' b = A b ∧ (∀ f, R' f b = R f b) ∧ Q' b = Q b)
theorem gEx.rfl {a : Nat} {K N : Nat → Nat} {I : Nat → Nat → Int} {A : Nat → Int → Int} {R : Nat → Nat → Option Nat} {Q : Nat → Int → Option Nat} {G : Nat → Nat × Int} : gEx a K N I A R Q G K N I A R Q G := fun _ _ => ⟨Eq.refl _, Eq.refl _, Eq.refl _, fun _ => ⟨fun _ => Eq.refl _, Eq.refl _, fun _ => Eq.refl _, Eq.refl _⟩⟩
theorem gEx.trans {a c : Nat} {K0 N0 : Nat → Nat} {I0 : Nat → Nat → Int} {A0 : Nat → Int → Int} {R0 : Nat → Nat → Option Nat} {Q0 : Nat → Int → Option Nat} {G0 : Nat → Nat × Int} {K1 N1 : Nat → Nat} {I1 : Nat → Nat → Int} {A1 : Nat → Int → Int} {R1 : Nat → Nat → Option Nat} {Q1 : Nat → Int → Option Nat} {G1 : Nat → Nat × Int} {K2 N2 : Nat → Nat} {I2 : Nat → Nat → Int} {A2 : Nat → Int → Int} {R2 : Nat → Nat → Option Nat} {Q2 : Nat → Int → Option Nat} {G2 : Nat → Nat × Int} (h1 : gEx a K0 N0 I0 A0 R0 Q0 G0 K1 N1 I1 A1 R1 Q1 G1) (h2 : gEx c K1 N1 I1 A1 R1 Q1 G1 K2 N2 I2 A2 R2 Q2 G2) (hc : c = a ∨ K0 c = 0) : gEx a K0 N0 I0 A0 R0 Q0 G0 K2 N2 I2 A2 R2 Q2 G2 := fun b hb => by
  obtain ⟨p1, p2, p3, p4⟩ := h1 b hb
  obtain ⟨q1, q2, q3, q4⟩ := h2 b (by rw [p1]; exact hb)
  refine ⟨q1.trans p1, q2.trans p2, q3.trans p3, fun hne => ?_⟩
  obtain ⟨p5, p6, p7, p8⟩ := p4 hne
  obtain ⟨q5, q6, q7, q8⟩ := q4 (fun e => by
    rcases hc with hc | hc
    · exact hne (e.trans hc)
    · rw [← e] at hc; exact hb hc)
  exact ⟨fun f => (q5 f).trans (p5 f), q6.trans p6, fun f => (q7 f).trans (p7 f), q8.trans p8⟩
theorem gEx.fresh {a q : Nat} {K N : Nat → Nat} {I : Nat → Nat → Int} {A : Nat → Int → Int} {R : Nat → Nat → Option Nat} {Q : Nat → Int → Option Nat} {G : Nat → Nat × Int} {K1 N1 : Nat → Nat} {I1 : Nat → Nat → Int} {A1 : Nat → Int → Int} {R1 : Nat → Nat → Option Nat} {Q1 : Nat → Int → Option Nat} {G1 : Nat → Nat × Int} (hq : K q = 0) (h1 : ∀ b, b ≠ q → K1 b = K b ∧ N1 b = N b ∧ G1 b = G b ∧ (∀ f, I1 f b = I f b) ∧ A1 b = A b ∧ (∀ f, R1 f b = R f b) ∧ Q1 b = Q b) : gEx a K N I A R Q G K1 N1 I1 A1 R1 Q1 G1 := fun b hb => by
  obtain ⟨p1, p2, p3, p4, p5, p6, p7⟩ := h1 b (fun e => hb (by rw [e]; exact hq))
  exact ⟨p1, p2, p3, fun _ => ⟨p4, p5, p6, p7⟩⟩
theorem gEx.new {a q v : Nat} {K N : Nat → Nat} {I : Nat → Nat → Int} {A : Nat → Int → Int} {R : Nat → Nat → Option Nat} {Q : Nat → Int → Option Nat} {G : Nat → Nat × Int} {K1 : Nat → Nat} {I1 : Nat → Nat → Int} {R1 : Nat → Nat → Option Nat} {g : Nat × Int} (hq : K q = 0) (hK : K1 = va_up K q v) (hI : I1 = g_z I q 0) (hR : R1 = g_z R q none) : gEx a K N I A R Q G K1 N I1 A R1 Q (va_up G q g) := gEx.fresh hq (fun b hb => by
  subst hK hI hR
  exact ⟨va_up_ne _ _ hb, Eq.refl _, va_up_ne _ _ hb, fun f => g_z_ne _ _ _ hb, Eq.refl _, fun f => g_z_ne _ _ _ hb, Eq.refl _⟩)
theorem gEx.newa {a q v m : Nat} {K N : Nat → Nat} {I : Nat → Nat → Int} {A : Nat → Int → Int} {R : Nat → Nat → Option Nat} {Q : Nat → Int → Option Nat} {G : Nat → Nat × Int} {K1 N1 : Nat → Nat} {A1 : Nat → Int → Int} {g : Nat × Int} (hq : K q = 0) (hK : K1 = va_up K q v) (hN : N1 = va_up N q m) (hA : A1 = g_zr A q 0) : gEx a K N I A R Q G K1 N1 I A1 R Q (va_up G q g) := gEx.fresh hq (fun b hb => by
  subst hK hN hA
  exact ⟨va_up_ne _ _ hb, va_up_ne _ _ hb, va_up_ne _ _ hb, fun f => Eq.refl _, g_zr_ne _ _ hb, fun f => Eq.refl _, Eq.refl _⟩)
theorem gEx.newq {a q v m : Nat} {K N : Nat → Nat} {I : Nat → Nat → Int} {A : Nat → Int → Int} {R : Nat → Nat → Option Nat} {Q : Nat → Int → Option Nat} {G : Nat → Nat × Int} {K1 N1 : Nat → Nat} {Q1 : Nat → Int → Option Nat} {g : Nat × Int} (hq : K q = 0) (hK : K1 = va_up K q v) (hN : N1 = va_up N q m) (hQ : Q1 = g_zr Q q none) : gEx a K N I A R Q G K1 N1 I A R Q1 (va_up G q g) := gEx.fresh hq (fun b hb => by
  subst hK hN hQ
  exact ⟨va_up_ne _ _ hb, va_up_ne _ _ hb, va_up_ne _ _ hb, fun f => Eq.refl _, Eq.refl _, fun f => Eq.refl _, g_zr_ne _ _ hb⟩)
theorem gEx.own {a : Nat} {K N : Nat → Nat} {I : Nat → Nat → Int} {A : Nat → Int → Int} {R : Nat → Nat → Option Nat} {Q : Nat → Int → Option Nat} {G : Nat → Nat × Int} {I1 : Nat → Nat → Int} {A1 : Nat → Int → Int} {R1 : Nat → Nat → Option Nat} {Q1 : Nat → Int → Option Nat} (hI : ∀ f b, b ≠ a → I1 f b = I f b) (hA : ∀ b, b ≠ a → A1 b = A b) (hR : ∀ f b, b ≠ a → R1 f b = R f b) (hQ : ∀ b, b ≠ a → Q1 b = Q b) : gEx a K N I A R Q G K N I1 A1 R1 Q1 G := fun b _ => ⟨Eq.refl _, Eq.refl _, Eq.refl _, fun hb => ⟨fun f => hI f b hb, hA b hb, fun f => hR f b hb, hQ b hb⟩⟩
theorem gEx.upI {a f : Nat} {v : Int} {K N : Nat → Nat} {I : Nat → Nat → Int} {A : Nat → Int → Int} {R : Nat → Nat → Option Nat} {Q : Nat → Int → Option Nat} {G : Nat → Nat × Int} {I1 : Nat → Nat → Int} (h : I1 = g_up I f a v) : gEx a K N I A R Q G K N I1 A R Q G := gEx.own (fun f b hb => by rw [h]; exact g_up_ne2 _ _ hb) (fun _ _ => Eq.refl _) (fun _ _ _ => Eq.refl _) (fun _ _ => Eq.refl _)
theorem gEx.upR {a f : Nat} {v : Option Nat} {K N : Nat → Nat} {I : Nat → Nat → Int} {A : Nat → Int → Int} {R : Nat → Nat → Option Nat} {Q : Nat → Int → Option Nat} {G : Nat → Nat × Int} {R1 : Nat → Nat → Option Nat} (h : R1 = g_up R f a v) : gEx a K N I A R Q G K N I A R1 Q G := gEx.own (fun _ _ _ => Eq.refl _) (fun _ _ => Eq.refl _) (fun f b hb => by rw [h]; exact g_up_ne2 _ _ hb) (fun _ _ => Eq.refl _)
theorem g_uq_at {α : Type} (f : Nat → Int → α) (q : Nat) (i : Int) (v : α) (j : Int) : g_uq f q i v q j = if j = i then v else f q j := by
  by_cases h : j = i <;> simp [g_uq, h]
theorem g_uq_off {α : Type} (f : Nat → Int → α) {q b : Nat} (i : Int) (v : α) (h : b ≠ q) : g_uq f q i v b = f b := by funext j; simp [g_uq, h]
theorem gEx.upQ {a : Nat} {i : Int} {v : Option Nat} {K N : Nat → Nat} {I : Nat → Nat → Int} {A : Nat → Int → Int} {R : Nat → Nat → Option Nat} {Q : Nat → Int → Option Nat} {G : Nat → Nat × Int} {Q1 : Nat → Int → Option Nat} (h : Q1 = g_uq Q a i v) : gEx a K N I A R Q G K N I A R Q1 G := gEx.own (fun _ _ _ => Eq.refl _) (fun _ _ => Eq.refl _) (fun _ _ _ => Eq.refl _) (fun b hb => by rw [h]; exact g_uq_off _ _ _ hb)
/-- a row of rows, made up to m -/
def cRb (K N : Nat → Nat) (I : Nat → Nat → Int) (R : Nat → Nat → Option Nat) (Q : Nat → Int → Option Nat) (G : Nat → Nat × Int) (s f kd cl n : Nat) (m : Int) (V : (Nat → Int) → Int → Prop) : Prop := R f s = some (aArr R s f) ∧ K (aArr R s f) = kd ∧ N (aArr R s f) = n ∧ G (aArr R s f) = (s, -1) ∧ ∀ i : Int, 0 ≤ i → i < m → Q (aArr R s f) i = some (aRow R Q s f i) ∧ K (aRow R Q s f i) = cl ∧ G (aRow R Q s f i) = (s, i) ∧ V (fun g => I g (aRow R Q s f i)) i
theorem cRb.keep {a s f kd cl n : Nat} {m : Int} {V : (Nat → Int) → Int → Prop} {K N : Nat → Nat} {I : Nat → Nat → Int} {A : Nat → Int → Int} {R : Nat → Nat → Option Nat} {Q : Nat → Int → Option Nat} {G : Nat → Nat × Int} {K1 N1 : Nat → Nat} {I1 : Nat → Nat → Int} {A1 : Nat → Int → Int} {R1 : Nat → Nat → Option Nat} {Q1 : Nat → Int → Option Nat} {G1 : Nat → Nat × Int} (h : cRb K N I R Q G s f kd cl n m V) (hx : gEx a K N I A R Q G K1 N1 I1 A1 R1 Q1 G1) (hs : K s ≠ 0) (hsa : s ≠ a) (hkd : kd ≠ 0 ∧ K a ≠ kd) (hcl : cl ≠ 0 ∧ K a ≠ cl) : cRb K1 N1 I1 R1 Q1 G1 s f kd cl n m V := by
  obtain ⟨h1, h2, h3, h4, h5⟩ := h
  have e1 := ((hx s hs).2.2.2 hsa).2.2.1 f
  have e2 : aArr R1 s f = aArr R s f := by unfold aArr; rw [e1]
  have e3 := hx (aArr R s f) (by rw [h2]; exact hkd.1)
  have e4 := e3.2.2.2 (fun e => hkd.2 (by rw [← e]; exact h2))
  have e5 : ∀ i, aRow R1 Q1 s f i = aRow R Q s f i := fun i => by unfold aRow; rw [e2, e4.2.2.2]
  refine ⟨by rw [e1, e2]; exact h1, by rw [e2, e3.1]; exact h2, by rw [e2, e3.2.1]; exact h3, by rw [e2, e3.2.2.1]; exact h4, fun i p q => ?_⟩
  obtain ⟨r1, r2, r3, r4⟩ := h5 i p q
  have e6 := hx (aRow R Q s f i) (by rw [r2]; exact hcl.1)
  have e7 := e6.2.2.2 (fun e => hcl.2 (by rw [← e]; exact r2))
  rw [e5, e2, e4.2.2.2, e6.1, e6.2.2.1]
  refine ⟨r1, r2, r3, ?_⟩
  have e8 : (fun g => I1 g (aRow R Q s f i)) = (fun g => I g (aRow R Q s f i)) := funext e7.1
  rw [e8]
  exact r4
theorem cRb.put {s f f' kd cl n : Nat} {m : Int} {z : Option Nat} {V : (Nat → Int) → Int → Prop} {K N : Nat → Nat} {I : Nat → Nat → Int} {R : Nat → Nat → Option Nat} {Q : Nat → Int → Option Nat} {G : Nat → Nat × Int} {R1 : Nat → Nat → Option Nat} (h : cRb K N I R Q G s f kd cl n m V) (hf : f ≠ f') (e : R1 = g_up R f' s z) : cRb K N I R1 Q G s f kd cl n m V := by
  have e1 : R1 f s = R f s := by rw [e]; exact g_up_ne1 _ _ hf
  have e2 : aArr R1 s f = aArr R s f := by unfold aArr; rw [e1]
  have e5 : ∀ i, aRow R1 Q s f i = aRow R Q s f i := fun i => by unfold aRow; rw [e2]
  obtain ⟨h1, h2, h3, h4, h5⟩ := h
  exact ⟨by rw [e1, e2]; exact h1, by rw [e2]; exact h2, by rw [e2]; exact h3, by rw [e2]; exact h4, fun i p q => by rw [e5, e2]; exact h5 i p q⟩
theorem cRb.putI {s f g kd cl n : Nat} {m v : Int} {V : (Nat → Int) → Int → Prop} {K N : Nat → Nat} {I : Nat → Nat → Int} {R : Nat → Nat → Option Nat} {Q : Nat → Int → Option Nat} {G : Nat → Nat × Int} {I1 : Nat → Nat → Int} (h : cRb K N I R Q G s f kd cl n m V) (hs : K s ≠ cl) (e : I1 = g_up I g s v) : cRb K N I1 R Q G s f kd cl n m V := by
  obtain ⟨h1, h2, h3, h4, h5⟩ := h
  refine ⟨h1, h2, h3, h4, fun i p q => ?_⟩
  obtain ⟨r1, r2, r3, r4⟩ := h5 i p q
  refine ⟨r1, r2, r3, ?_⟩
  have e8 : (fun g => I1 g (aRow R Q s f i)) = (fun g => I g (aRow R Q s f i)) := funext (fun c => by rw [e]; exact g_up_ne2 _ _ (fun q => hs (by rw [← q]; exact r2)))
  rw [e8]
  exact r4
theorem cRb.begin {s f kd cl n q : Nat} {V : (Nat → Int) → Int → Prop} {K N : Nat → Nat} {I : Nat → Nat → Int} {R : Nat → Nat → Option Nat} {Q : Nat → Int → Option Nat} {G : Nat → Nat × Int} {R1 : Nat → Nat → Option Nat} (e : R1 = g_up R f s (some q)) (hK : K q = kd) (hN : N q = n) (hG : G q = (s, -1)) : cRb K N I R1 Q G s f kd cl n 0 V := by
  have e1 : R1 f s = some q := by rw [e]; simp [g_up]
  have e2 : aArr R1 s f = q := by unfold aArr; rw [e1]; rfl
  exact ⟨by rw [e1, e2], by rw [e2]; exact hK, by rw [e2]; exact hN, by rw [e2]; exact hG, fun i p q => absurd q (by omega)⟩
theorem cRb.add {a s f kd cl n q : Nat} {m : Int} {V : (Nat → Int) → Int → Prop} {K N : Nat → Nat} {I : Nat → Nat → Int} {A : Nat → Int → Int} {R : Nat → Nat → Option Nat} {Q : Nat → Int → Option Nat} {G : Nat → Nat × Int} {K1 N1 : Nat → Nat} {I1 : Nat → Nat → Int} {A1 : Nat → Int → Int} {R1 : Nat → Nat → Option Nat} {Q1 : Nat → Int → Option Nat} {G1 : Nat → Nat × Int} (h : cRb K N I R Q G s f kd cl n m V) (ha : a = aArr R s f) (hx : gEx a K N I A R Q G K1 N1 I1 A1 R1 Q1 G1) (hs : K s ≠ 0) (hsa : s ≠ a) (hkd : kd ≠ 0 ∧ kd ≠ cl) (hcl : cl ≠ 0) (hQ : ∀ j, Q1 a j = if j = m then some q else Q a j) (hK : K1 q = cl) (hG : G1 q = (s, m)) (hV : V (fun g => I1 g q) m) : cRb K1 N1 I1 R1 Q1 G1 s f kd cl n (m + 1) V := by
  obtain ⟨h1, h2, h3, h4, h5⟩ := h
  subst ha
  have e1 := ((hx s hs).2.2.2 hsa).2.2.1 f
  have e2 : aArr R1 s f = aArr R s f := by unfold aArr; rw [e1]
  have e3 := hx (aArr R s f) (by rw [h2]; exact hkd.1)
  refine ⟨by rw [e1, e2]; exact h1, by rw [e2, e3.1]; exact h2, by rw [e2, e3.2.1]; exact h3, by rw [e2, e3.2.2.1]; exact h4, fun i p r => ?_⟩
  by_cases e : i = m
  · have e5 : aRow R1 Q1 s f i = q := by unfold aRow; rw [e2, hQ, if_pos e]; rfl
    rw [e5, e2, hQ, if_pos e, e]
    exact ⟨rfl, hK, hG, hV⟩
  · obtain ⟨r1, r2, r3, r4⟩ := h5 i p (by omega)
    have e5 : aRow R1 Q1 s f i = aRow R Q s f i := by unfold aRow; rw [e2, hQ, if_neg e]
    have e6 := hx (aRow R Q s f i) (by rw [r2]; exact hcl)
    have e7 := e6.2.2.2 (fun e => hkd.2 (by rw [← h2, ← r2, e]))
    rw [e5, e2, hQ, if_neg e, e6.1, e6.2.2.1]
    refine ⟨r1, r2, r3, ?_⟩
    have e8 : (fun g => I1 g (aRow R Q s f i)) = (fun g => I g (aRow R Q s f i)) := funext e7.1
    rw [e8]
    exact r4
def vGlz : (Nat → Int) → Int → Prop := fun h _ => h 40 = 8 ∧ h 41 = 10 ∧ h 42 = 10 ∧ h 43 = 100
def vPos : (Nat → Int) → Int → Prop := fun h i => h 120 = (if 16 ≤ i then 5 * (i - 16 - 3) else 0) ∧ h 121 = 0 ∧ h 122 = 0 ∧ h 123 = 0
def vAny : (Nat → Int) → Int → Prop := fun _ _ => True
def cEz (K N : Nat → Nat) (I : Nat → Nat → Int) (R : Nat → Nat → Option Nat) (G : Nat → Nat × Int) (s : Nat) : Prop := ∃ ev kq nq, cEv K N R G s ev kq nq ∧ I 22 ev = 0
def cIz (I : Nat → Nat → Int) (s : Nat) : Prop := I 166 s = 60 ∧ I 167 s = 10 ∧ I 168 s = 0 ∧ I 169 s = 0 ∧ I 170 s = 0 ∧ I 171 s = 0 ∧ I 172 s = 0 ∧ I 173 s = 0
def cBd (K N : Nat → Nat) (I : Nat → Nat → Int) (R : Nat → Nat → Option Nat) (Q : Nat → Int → Option Nat) (G : Nat → Nat × Int) (s : Nat) (a b c d e : Int) : Prop := K s = 9 ∧ G s = (s, 0) ∧ cRb K N I R Q G s 160 16 3 4 a vGlz ∧ cRb K N I R Q G s 161 19 7 24 b vPos ∧ cRb K N I R Q G s 162 18 6 80 c vAny ∧ cRb K N I R Q G s 163 17 5 160 d vAny ∧ cRb K N I R Q G s 164 15 1 40 e vAny ∧ cEz K N I R G s ∧ cIz I s
theorem cEz.keep {a s : Nat} {K N : Nat → Nat} {I : Nat → Nat → Int} {A : Nat → Int → Int} {R : Nat → Nat → Option Nat} {Q : Nat → Int → Option Nat} {G : Nat → Nat × Int} {K1 N1 : Nat → Nat} {I1 : Nat → Nat → Int} {A1 : Nat → Int → Int} {R1 : Nat → Nat → Option Nat} {Q1 : Nat → Int → Option Nat} {G1 : Nat → Nat × Int} (h : cEz K N I R G s) (hx : gEx a K N I A R Q G K1 N1 I1 A1 R1 Q1 G1) (hs : K s ≠ 0) (hsa : s ≠ a) (ha : K a ≠ 2 ∧ K a ≠ 13) : cEz K1 N1 I1 R1 G1 s := by
  obtain ⟨ev, kq, nq, ⟨h1, h2, h3, h4, h5, h6, h7, h8, h9, h10, h11, h12⟩, h13⟩ := h
  have x1 := (hx s hs).2.2.2 hsa
  have x2 := hx ev (by rw [h2]; decide)
  have x3 := x2.2.2.2 (fun e => ha.1 (by rw [← e]; exact h2))
  have x4 := hx kq (by rw [h5]; decide)
  have x5 := hx nq (by rw [h7]; decide)
  exact ⟨ev, kq, nq, ⟨(x1.2.2.1 _).trans h1, x2.1.trans h2, (x3.2.2.1 _).trans h3, (x3.2.2.1 _).trans h4, x4.1.trans h5, x4.2.1.trans h6, x5.1.trans h7, x5.2.1.trans h8, h9, x2.2.2.1.trans h10, x4.2.2.1.trans h11, x5.2.2.1.trans h12⟩, (x3.1 _).trans h13⟩
theorem cIz.keep {a s : Nat} {K N : Nat → Nat} {I : Nat → Nat → Int} {A : Nat → Int → Int} {R : Nat → Nat → Option Nat} {Q : Nat → Int → Option Nat} {G : Nat → Nat × Int} {K1 N1 : Nat → Nat} {I1 : Nat → Nat → Int} {A1 : Nat → Int → Int} {R1 : Nat → Nat → Option Nat} {Q1 : Nat → Int → Option Nat} {G1 : Nat → Nat × Int} (h : cIz I s) (hx : gEx a K N I A R Q G K1 N1 I1 A1 R1 Q1 G1) (hs : K s ≠ 0) (hsa : s ≠ a) : cIz I1 s := by
  have x1 := ((hx s hs).2.2.2 hsa).1
  obtain ⟨h1, h2, h3, h4, h5, h6, h7, h8⟩ := h
  exact ⟨(x1 _).trans h1, (x1 _).trans h2, (x1 _).trans h3, (x1 _).trans h4, (x1 _).trans h5, (x1 _).trans h6, (x1 _).trans h7, (x1 _).trans h8⟩
theorem cBd.add160 {s q : Nat} {a b c d e : Int} {K N : Nat → Nat} {I : Nat → Nat → Int} {A : Nat → Int → Int} {R : Nat → Nat → Option Nat} {Q : Nat → Int → Option Nat} {G : Nat → Nat × Int} {K1 N1 : Nat → Nat} {I1 : Nat → Nat → Int} {A1 : Nat → Int → Int} {R1 : Nat → Nat → Option Nat} {Q1 : Nat → Int → Option Nat} {G1 : Nat → Nat × Int} (h : cBd K N I R Q G s a b c d e) (hx : gEx (aArr R s 160) K N I A R Q G K1 N1 I1 A1 R1 Q1 G1) (hQ : ∀ j, Q1 (aArr R s 160) j = if j = a then some q else Q (aArr R s 160) j) (hK : K1 q = 3) (hG : G1 q = (s, a)) (hV : vGlz (fun g => I1 g q) a) : cBd K1 N1 I1 R1 Q1 G1 s (a + 1) b c d e := by
  obtain ⟨k0, g0, b0, b1, b2, b3, b4, ez, iz⟩ := h
  have ka := b0.2.1
  have hsa : s ≠ aArr R s 160 := fun e => by rw [← e, k0] at ka; exact absurd ka (by decide)
  have x1 := hx s (by rw [k0]; decide)
  exact ⟨x1.1.trans k0, x1.2.2.1.trans g0, b0.add rfl hx (by rw [k0]; decide) hsa ⟨by decide, by decide⟩ (by decide) hQ hK hG hV, b1.keep hx (by rw [k0]; decide) hsa ⟨by decide, by rw [ka]; decide⟩ ⟨by decide, by rw [ka]; decide⟩, b2.keep hx (by rw [k0]; decide) hsa ⟨by decide, by rw [ka]; decide⟩ ⟨by decide, by rw [ka]; decide⟩, b3.keep hx (by rw [k0]; decide) hsa ⟨by decide, by rw [ka]; decide⟩ ⟨by decide, by rw [ka]; decide⟩, b4.keep hx (by rw [k0]; decide) hsa ⟨by decide, by rw [ka]; decide⟩ ⟨by decide, by rw [ka]; decide⟩, ez.keep hx (by rw [k0]; decide) hsa ⟨by rw [ka]; decide, by rw [ka]; decide⟩, iz.keep hx (by rw [k0]; decide) hsa⟩
theorem cBd.add161 {s q : Nat} {a b c d e : Int} {K N : Nat → Nat} {I : Nat → Nat → Int} {A : Nat → Int → Int} {R : Nat → Nat → Option Nat} {Q : Nat → Int → Option Nat} {G : Nat → Nat × Int} {K1 N1 : Nat → Nat} {I1 : Nat → Nat → Int} {A1 : Nat → Int → Int} {R1 : Nat → Nat → Option Nat} {Q1 : Nat → Int → Option Nat} {G1 : Nat → Nat × Int} (h : cBd K N I R Q G s a b c d e) (hx : gEx (aArr R s 161) K N I A R Q G K1 N1 I1 A1 R1 Q1 G1) (hQ : ∀ j, Q1 (aArr R s 161) j = if j = b then some q else Q (aArr R s 161) j) (hK : K1 q = 7) (hG : G1 q = (s, b)) (hV : vPos (fun g => I1 g q) b) : cBd K1 N1 I1 R1 Q1 G1 s a (b + 1) c d e := by
  obtain ⟨k0, g0, b0, b1, b2, b3, b4, ez, iz⟩ := h
  have ka := b1.2.1
  have hsa : s ≠ aArr R s 161 := fun e => by rw [← e, k0] at ka; exact absurd ka (by decide)
  have x1 := hx s (by rw [k0]; decide)
  exact ⟨x1.1.trans k0, x1.2.2.1.trans g0, b0.keep hx (by rw [k0]; decide) hsa ⟨by decide, by rw [ka]; decide⟩ ⟨by decide, by rw [ka]; decide⟩, b1.add rfl hx (by rw [k0]; decide) hsa ⟨by decide, by decide⟩ (by decide) hQ hK hG hV, b2.keep hx (by rw [k0]; decide) hsa ⟨by decide, by rw [ka]; decide⟩ ⟨by decide, by rw [ka]; decide⟩, b3.keep hx (by rw [k0]; decide) hsa ⟨by decide, by rw [ka]; decide⟩ ⟨by decide, by rw [ka]; decide⟩, b4.keep hx (by rw [k0]; decide) hsa ⟨by decide, by rw [ka]; decide⟩ ⟨by decide, by rw [ka]; decide⟩, ez.keep hx (by rw [k0]; decide) hsa ⟨by rw [ka]; decide, by rw [ka]; decide⟩, iz.keep hx (by rw [k0]; decide) hsa⟩
theorem cBd.add162 {s q : Nat} {a b c d e : Int} {K N : Nat → Nat} {I : Nat → Nat → Int} {A : Nat → Int → Int} {R : Nat → Nat → Option Nat} {Q : Nat → Int → Option Nat} {G : Nat → Nat × Int} {K1 N1 : Nat → Nat} {I1 : Nat → Nat → Int} {A1 : Nat → Int → Int} {R1 : Nat → Nat → Option Nat} {Q1 : Nat → Int → Option Nat} {G1 : Nat → Nat × Int} (h : cBd K N I R Q G s a b c d e) (hx : gEx (aArr R s 162) K N I A R Q G K1 N1 I1 A1 R1 Q1 G1) (hQ : ∀ j, Q1 (aArr R s 162) j = if j = c then some q else Q (aArr R s 162) j) (hK : K1 q = 6) (hG : G1 q = (s, c)) (hV : vAny (fun g => I1 g q) c) : cBd K1 N1 I1 R1 Q1 G1 s a b (c + 1) d e := by
  obtain ⟨k0, g0, b0, b1, b2, b3, b4, ez, iz⟩ := h
  have ka := b2.2.1
  have hsa : s ≠ aArr R s 162 := fun e => by rw [← e, k0] at ka; exact absurd ka (by decide)
  have x1 := hx s (by rw [k0]; decide)
  exact ⟨x1.1.trans k0, x1.2.2.1.trans g0, b0.keep hx (by rw [k0]; decide) hsa ⟨by decide, by rw [ka]; decide⟩ ⟨by decide, by rw [ka]; decide⟩, b1.keep hx (by rw [k0]; decide) hsa ⟨by decide, by rw [ka]; decide⟩ ⟨by decide, by rw [ka]; decide⟩, b2.add rfl hx (by rw [k0]; decide) hsa ⟨by decide, by decide⟩ (by decide) hQ hK hG hV, b3.keep hx (by rw [k0]; decide) hsa ⟨by decide, by rw [ka]; decide⟩ ⟨by decide, by rw [ka]; decide⟩, b4.keep hx (by rw [k0]; decide) hsa ⟨by decide, by rw [ka]; decide⟩ ⟨by decide, by rw [ka]; decide⟩, ez.keep hx (by rw [k0]; decide) hsa ⟨by rw [ka]; decide, by rw [ka]; decide⟩, iz.keep hx (by rw [k0]; decide) hsa⟩
theorem cBd.add163 {s q : Nat} {a b c d e : Int} {K N : Nat → Nat} {I : Nat → Nat → Int} {A : Nat → Int → Int} {R : Nat → Nat → Option Nat} {Q : Nat → Int → Option Nat} {G : Nat → Nat × Int} {K1 N1 : Nat → Nat} {I1 : Nat → Nat → Int} {A1 : Nat → Int → Int} {R1 : Nat → Nat → Option Nat} {Q1 : Nat → Int → Option Nat} {G1 : Nat → Nat × Int} (h : cBd K N I R Q G s a b c d e) (hx : gEx (aArr R s 163) K N I A R Q G K1 N1 I1 A1 R1 Q1 G1) (hQ : ∀ j, Q1 (aArr R s 163) j = if j = d then some q else Q (aArr R s 163) j) (hK : K1 q = 5) (hG : G1 q = (s, d)) (hV : vAny (fun g => I1 g q) d) : cBd K1 N1 I1 R1 Q1 G1 s a b c (d + 1) e := by
  obtain ⟨k0, g0, b0, b1, b2, b3, b4, ez, iz⟩ := h
  have ka := b3.2.1
  have hsa : s ≠ aArr R s 163 := fun e => by rw [← e, k0] at ka; exact absurd ka (by decide)
  have x1 := hx s (by rw [k0]; decide)
  exact ⟨x1.1.trans k0, x1.2.2.1.trans g0, b0.keep hx (by rw [k0]; decide) hsa ⟨by decide, by rw [ka]; decide⟩ ⟨by decide, by rw [ka]; decide⟩, b1.keep hx (by rw [k0]; decide) hsa ⟨by decide, by rw [ka]; decide⟩ ⟨by decide, by rw [ka]; decide⟩, b2.keep hx (by rw [k0]; decide) hsa ⟨by decide, by rw [ka]; decide⟩ ⟨by decide, by rw [ka]; decide⟩, b3.add rfl hx (by rw [k0]; decide) hsa ⟨by decide, by decide⟩ (by decide) hQ hK hG hV, b4.keep hx (by rw [k0]; decide) hsa ⟨by decide, by rw [ka]; decide⟩ ⟨by decide, by rw [ka]; decide⟩, ez.keep hx (by rw [k0]; decide) hsa ⟨by rw [ka]; decide, by rw [ka]; decide⟩, iz.keep hx (by rw [k0]; decide) hsa⟩
theorem cBd.add164 {s q : Nat} {a b c d e : Int} {K N : Nat → Nat} {I : Nat → Nat → Int} {A : Nat → Int → Int} {R : Nat → Nat → Option Nat} {Q : Nat → Int → Option Nat} {G : Nat → Nat × Int} {K1 N1 : Nat → Nat} {I1 : Nat → Nat → Int} {A1 : Nat → Int → Int} {R1 : Nat → Nat → Option Nat} {Q1 : Nat → Int → Option Nat} {G1 : Nat → Nat × Int} (h : cBd K N I R Q G s a b c d e) (hx : gEx (aArr R s 164) K N I A R Q G K1 N1 I1 A1 R1 Q1 G1) (hQ : ∀ j, Q1 (aArr R s 164) j = if j = e then some q else Q (aArr R s 164) j) (hK : K1 q = 1) (hG : G1 q = (s, e)) (hV : vAny (fun g => I1 g q) e) : cBd K1 N1 I1 R1 Q1 G1 s a b c d (e + 1) := by
  obtain ⟨k0, g0, b0, b1, b2, b3, b4, ez, iz⟩ := h
  have ka := b4.2.1
  have hsa : s ≠ aArr R s 164 := fun e => by rw [← e, k0] at ka; exact absurd ka (by decide)
  have x1 := hx s (by rw [k0]; decide)
  exact ⟨x1.1.trans k0, x1.2.2.1.trans g0, b0.keep hx (by rw [k0]; decide) hsa ⟨by decide, by rw [ka]; decide⟩ ⟨by decide, by rw [ka]; decide⟩, b1.keep hx (by rw [k0]; decide) hsa ⟨by decide, by rw [ka]; decide⟩ ⟨by decide, by rw [ka]; decide⟩, b2.keep hx (by rw [k0]; decide) hsa ⟨by decide, by rw [ka]; decide⟩ ⟨by decide, by rw [ka]; decide⟩, b3.keep hx (by rw [k0]; decide) hsa ⟨by decide, by rw [ka]; decide⟩ ⟨by decide, by rw [ka]; decide⟩, b4.add rfl hx (by rw [k0]; decide) hsa ⟨by decide, by decide⟩ (by decide) hQ hK hG hV, ez.keep hx (by rw [k0]; decide) hsa ⟨by rw [ka]; decide, by rw [ka]; decide⟩, iz.keep hx (by rw [k0]; decide) hsa⟩
theorem cRb.row {s f kd cl n : Nat} {V : (Nat → Int) → Int → Prop} {K N : Nat → Nat} {I : Nat → Nat → Int} {R : Nat → Nat → Option Nat} {Q : Nat → Int → Option Nat} {G : Nat → Nat × Int} (h : cRb K N I R Q G s f kd cl n n V) : cRow K N R Q G s f kd cl n := ⟨h.1, h.2.1, h.2.2.1, h.2.2.2.1, fun i p q => by
  obtain ⟨r1, r2, r3, r4⟩ := h.2.2.2.2 i p q
  exact ⟨r1, r2, r3⟩⟩
theorem cBd.sh {s : Nat} {K N : Nat → Nat} {I : Nat → Nat → Int} {R : Nat → Nat → Option Nat} {Q : Nat → Int → Option Nat} {G : Nat → Nat × Int} (h : cBd K N I R Q G s 4 24 80 160 40) : cSh K N R Q G s ∧ cSl I R Q s := by
  obtain ⟨k0, g0, b0, b1, b2, b3, b4, ez, iz⟩ := h
  exact ⟨⟨k0, g0, b0.row, b1.row, b2.row, b3.row, b4.row⟩, fun i p q => (b1.2.2.2.2 i p q).2.2.2.1⟩
def sW0 : Int → Int := fun j => if 0 ≤ j ∧ j < 4 then 8 else if 4 ≤ j ∧ j < 12 then 10 else if 12 ≤ j ∧ j < 16 then 100 else if j = 88 then 60 else if j = 89 then 10 else 0
theorem cBd.ag {s : Nat} {K N : Nat → Nat} {I : Nat → Nat → Int} {R : Nat → Nat → Option Nat} {Q : Nat → Int → Option Nat} {G : Nat → Nat × Int} (h : cBd K N I R Q G s 4 24 80 160 40) : ag (cV I R Q s) sW0 := by
  obtain ⟨k0, g0, b0, b1, b2, b3, b4, ez, ⟨z1, z2, z3, z4, z5, z6, z7, z8⟩⟩ := h
  have gl : ∀ i : Int, 0 ≤ i → i < 4 → I 40 (aRow R Q s 160 i) = 8 ∧ I 41 (aRow R Q s 160 i) = 10 ∧ I 42 (aRow R Q s 160 i) = 10 ∧ I 43 (aRow R Q s 160 i) = 100 := fun i p q => (b0.2.2.2.2 i p q).2.2.2
  have po : ∀ i : Int, 0 ≤ i → i < 24 → I 120 (aRow R Q s 161 i) = (if 16 ≤ i then 5 * (i - 16 - 3) else 0) ∧ I 121 (aRow R Q s 161 i) = 0 ∧ I 122 (aRow R Q s 161 i) = 0 ∧ I 123 (aRow R Q s 161 i) = 0 := fun i p q => (b1.2.2.2.2 i p q).2.2.2
  have w13 : sW0 1613 = 0 := by decide
  have w14 : sW0 1614 = 0 := by decide
  have w15 : sW0 1615 = 0 := by decide
  intro j hj
  rw [w13, w14, w15] at hj
  have hj2 : (0 ≤ j ∧ j < 90) ∨ (1610 ≤ j ∧ j ≤ 1615) := by unfold lv at hj; omega
  have e0 : ∀ (b n : Int), b ≤ j → j < b + n → j = b + (j - b) := fun b n _ _ => by omega
  by_cases c1 : j < 4
  · rw [cr_40 (by omega) c1]; rw [(gl j (by omega) (by omega)).1]; unfold sW0; rw [if_pos (by omega)]
  by_cases c2 : j < 8
  · rw [show j = 4 + (j - 4) by omega, cr_41 (by omega) (by omega), (gl (j - 4) (by omega) (by omega)).2.1]; unfold sW0; rw [if_neg (by omega), if_pos (by omega)]
  by_cases c3 : j < 12
  · rw [show j = 8 + (j - 8) by omega, cr_42 (by omega) (by omega), (gl (j - 8) (by omega) (by omega)).2.2.1]; unfold sW0; rw [if_neg (by omega), if_pos (by omega)]
  by_cases c4 : j < 16
  · rw [show j = 12 + (j - 12) by omega, cr_43 (by omega) (by omega), (gl (j - 12) (by omega) (by omega)).2.2.2]; unfold sW0; rw [if_neg (by omega), if_neg (by omega), if_pos (by omega)]
  have hz : j ≠ 88 → j ≠ 89 → sW0 j = 0 := fun a b => by unfold sW0; rw [if_neg (by omega), if_neg (by omega), if_neg (by omega), if_neg a, if_neg b]
  by_cases c5 : j < 40
  · rw [hz (by omega) (by omega), show j = 16 + (j - 16) by omega, cr_121 (by omega) (by omega), (po (j - 16) (by omega) (by omega)).2.1]
  by_cases c6 : j < 64
  · rw [hz (by omega) (by omega), show j = 40 + (j - 40) by omega, cr_122 (by omega) (by omega), (po (j - 40) (by omega) (by omega)).2.2.1]
  by_cases c7 : j < 88
  · rw [hz (by omega) (by omega), show j = 64 + (j - 64) by omega, cr_123 (by omega) (by omega), (po (j - 64) (by omega) (by omega)).2.2.2]
  have hc : j = 88 ∨ j = 89 ∨ j = 1610 ∨ j = 1611 ∨ j = 1612 ∨ j = 1613 ∨ j = 1614 ∨ j = 1615 := by omega
  rcases hc with e | e | e | e | e | e | e | e <;> subst e
  · rw [cr_166, z1]; rfl
  · rw [cr_167, z2]; rfl
  · rw [cr_171, z6]; rfl
  · rw [cr_172, z7]; rfl
  · rw [cr_173, z8]; rfl
  · rw [cr_168, z3]; rfl
  · rw [cr_169, z4]; rfl
  · rw [cr_170, z5]; rfl
set_option maxHeartbeats 1000000 in
set_option maxRecDepth 100000 in
theorem k_N_Glaze (Y : gEnv) {K N : Nat → Nat} {I : Nat → Nat → Int} {A : Nat → Int → Int} {R : Nat → Nat → Option Nat} {Q : Nat → Int → Option Nat} {q : Nat} (hK : K q = 3) : gC Y yX4_init cX4_init 1 none ({ frames := 1, cells := 0, slots := 0, locals := 12 } : Room) [.ref q] K N I A R Q (g_wr K N R Q (fun v I' A' => v = none ∧ I' = g_up (g_up (g_up (g_up I 40 q 8) 41 q 10) 42 q 10) 43 q 100 ∧ A' = A)) gno := by
  refine gC_of (by decide) (Nat.le_of_ble_eq_true rfl) (fun X => ?_)
  refine g_aload_n dX4_init_0 rfl rfl ?_
  refine g_objInit dX4_init_1 mw_89 mw_50 mw_51 (by decide) (by decide) ?_
  refine g_aload_n dX4_init_4 rfl rfl ?_
  refine g_bipush dX4_init_5 (by decide) ?_
  refine g_put_Glaze_base dX4_init_7 mw_90 (by assumption) (fun I7 hI7 => ?_)
  refine g_aload_n dX4_init_10 rfl rfl ?_
  refine g_bipush dX4_init_11 (by decide) ?_
  refine g_put_Glaze_sensitivity dX4_init_13 mw_92 (by assumption) (fun I13 hI13 => ?_)
  refine g_aload_n dX4_init_16 rfl rfl ?_
  refine g_bipush dX4_init_17 (by decide) ?_
  refine g_put_Glaze_defects dX4_init_19 mw_94 (by assumption) (fun I19 hI19 => ?_)
  refine g_aload_n dX4_init_22 rfl rfl ?_
  refine g_bipush dX4_init_23 (by decide) ?_
  refine g_put_Glaze_price dX4_init_25 mw_97 (by assumption) (fun I25 hI25 => ?_)
  exact g_vret dX4_init_28 rfl (by decide) (by decide) ⟨rfl, rfl, rfl, rfl, rfl, by rw [hI25, hI19, hI13, hI7], rfl⟩
set_option maxHeartbeats 1000000 in
set_option maxRecDepth 100000 in
theorem k_N_Position (Y : gEnv) {K N : Nat → Nat} {I : Nat → Nat → Int} {A : Nat → Int → Int} {R : Nat → Nat → Option Nat} {Q : Nat → Int → Option Nat} {q : Nat} (hK : K q = 7) (z : Int) (hz : (-2147483648 ≤ z ∧ z ≤ 2147483647)) : gC Y yX8_init cX8_init 2 none ({ frames := 1, cells := 0, slots := 0, locals := 12 } : Room) [.ref q, vi z] K N I A R Q (g_wr K N R Q (fun v I' A' => v = none ∧ I' = g_up I 120 q z ∧ A' = A)) gno := by
  refine gC_of (by decide) (Nat.le_of_ble_eq_true rfl) (fun X => ?_)
  refine g_aload_n dX8_init_0 rfl rfl ?_
  refine g_objInit dX8_init_1 mw_112 mw_50 mw_51 (by decide) (by decide) ?_
  refine g_aload_n dX8_init_4 rfl rfl ?_
  refine g_iload_n dX8_init_5 rfl rfl ?_
  refine g_put_Position_slope dX8_init_6 mw_113 (by assumption) rfl rfl (fun I6 hI6 => ?_)
  exact g_vret dX8_init_9 rfl (by decide) (by decide) ⟨rfl, rfl, rfl, rfl, rfl, hI6, rfl⟩
set_option maxHeartbeats 1000000 in
set_option maxRecDepth 100000 in
theorem k_N_Pile (Y : gEnv) {K N : Nat → Nat} {I : Nat → Nat → Int} {A : Nat → Int → Int} {R : Nat → Nat → Option Nat} {Q : Nat → Int → Option Nat} {q : Nat} (hK : K q = 6) : gC Y yX7_init cX7_init 1 none ({ frames := 1, cells := 0, slots := 0, locals := 12 } : Room) [.ref q] K N I A R Q (g_wr K N R Q (fun v I' A' => v = none ∧ I' = I ∧ A' = A)) gno := by
  refine gC_of (by decide) (Nat.le_of_ble_eq_true rfl) (fun X => ?_)
  refine g_aload_n dX7_init_0 rfl rfl ?_
  refine g_objInit dX7_init_1 mw_132 mw_50 mw_51 (by decide) (by decide) ?_
  exact g_vret dX7_init_4 rfl (by decide) (by decide) ⟨rfl, rfl, rfl, rfl, rfl, rfl, rfl⟩
set_option maxHeartbeats 1000000 in
set_option maxRecDepth 100000 in
theorem k_N_Lot (Y : gEnv) {K N : Nat → Nat} {I : Nat → Nat → Int} {A : Nat → Int → Int} {R : Nat → Nat → Option Nat} {Q : Nat → Int → Option Nat} {q : Nat} (hK : K q = 5) : gC Y yX6_init cX6_init 1 none ({ frames := 1, cells := 0, slots := 0, locals := 12 } : Room) [.ref q] K N I A R Q (g_wr K N R Q (fun v I' A' => v = none ∧ I' = I ∧ A' = A)) gno := by
  refine gC_of (by decide) (Nat.le_of_ble_eq_true rfl) (fun X => ?_)
  refine g_aload_n dX6_init_0 rfl rfl ?_
  refine g_objInit dX6_init_1 mw_154 mw_50 mw_51 (by decide) (by decide) ?_
  exact g_vret dX6_init_4 rfl (by decide) (by decide) ⟨rfl, rfl, rfl, rfl, rfl, rfl, rfl⟩
set_option maxHeartbeats 1000000 in
set_option maxRecDepth 100000 in
theorem k_N_Delivery (Y : gEnv) {K N : Nat → Nat} {I : Nat → Nat → Int} {A : Nat → Int → Int} {R : Nat → Nat → Option Nat} {Q : Nat → Int → Option Nat} {q : Nat} (hK : K q = 1) : gC Y yX1_init cX1_init 1 none ({ frames := 1, cells := 0, slots := 0, locals := 12 } : Room) [.ref q] K N I A R Q (g_wr K N R Q (fun v I' A' => v = none ∧ I' = I ∧ A' = A)) gno := by
  refine gC_of (by decide) (Nat.le_of_ble_eq_true rfl) (fun X => ?_)
  refine g_aload_n dX1_init_0 rfl rfl ?_
  refine g_objInit dX1_init_1 mw_182 mw_50 mw_51 (by decide) (by decide) ?_
  exact g_vret dX1_init_4 rfl (by decide) (by decide) ⟨rfl, rfl, rfl, rfl, rfl, rfl, rfl⟩
set_option maxHeartbeats 1000000 in
set_option maxRecDepth 100000 in
theorem k_N_EventLog (Y : gEnv) {K N : Nat → Nat} {I : Nat → Nat → Int} {A : Nat → Int → Int} {R : Nat → Nat → Option Nat} {Q : Nat → Int → Option Nat} {q : Nat} (hK : K q = 2) : gC Y yX2_init cX2_init 1 none ({ frames := 1, cells := 2, slots := 40, locals := 12 } : Room) [.ref q] K N I A R Q (fun v K' N' I' A' R' Q' => v = none ∧ I' = I ∧ Q' = Q ∧ ∃ a b, K a = 0 ∧ K b = 0 ∧ a ≠ b ∧ K' = va_up (va_up K a 13) b 13 ∧ N' = va_up (va_up N a 20) b 20 ∧ A' = g_zr (g_zr A a 0) b 0 ∧ R' = g_up (g_up R 20 q (some a)) 21 q (some b)) gno := by
  refine gC_of (by decide) (Nat.le_of_ble_eq_true rfl) (fun X => ?_)
  refine g_aload_n dX2_init_0 rfl rfl ?_
  refine g_objInit dX2_init_1 mw_73 mw_50 mw_51 (by decide) (by decide) ?_
  refine g_aload_n dX2_init_4 rfl rfl ?_
  refine g_bipush dX2_init_5 (by decide) ?_
  refine g_newa_i (m := 20) dX2_init_7 mw_84 (by decide) (by decide) (by decide) (by decide) (fun a K7 N7 A7 za hK7 hN7 hA7 => ?_)
  have hK2 : K7 q = 2 := by rw [hK7, va_up_ne _ _ (fun e => by rw [e, za] at hK; cases hK)]; exact hK
  refine g_put_EventLog_kinds dX2_init_9 mw_74 (by rw [hK7, va_up_ne _ _ (fun e => by rw [e, za] at hK; cases hK)]; exact hK) rfl rfl (fun R9 hR9 => ?_)
  refine g_aload_n dX2_init_12 rfl rfl ?_
  refine g_bipush dX2_init_13 (by decide) ?_
  refine g_newa_i (m := 20) dX2_init_15 mw_84 (by decide) (by decide) (by decide) (by decide) (fun b K15 N15 A15 zb hK15 hN15 hA15 => ?_)
  refine g_put_EventLog_numbers dX2_init_17 mw_75 (by rw [hK15, va_up_ne _ _ (fun e => by rw [e] at hK2; rw [zb] at hK2; cases hK2)]; exact hK2) rfl rfl (fun R17 hR17 => ?_)
  exact g_vret dX2_init_20 rfl (by decide) (by decide) ⟨rfl, rfl, rfl, a, b, za, by
      by_cases e : b = a
      · rw [e, hK7, va_up_self] at zb; cases zb
      · rw [hK7, va_up_ne _ _ e] at zb; exact zb, (fun e => by
      rw [← e, hK7, va_up_self] at zb; cases zb), by rw [hK15, hK7], by rw [hN15, hN7], by rw [hA15, hA7], by rw [hR17, hR9]⟩
set_option maxHeartbeats 1000000 in
set_option maxRecDepth 100000 in
theorem k_N_Script (Y : gEnv) {K N : Nat → Nat} {I : Nat → Nat → Int} {A : Nat → Int → Int} {R : Nat → Nat → Option Nat} {Q : Nat → Int → Option Nat} {q : Nat} (hK : K q = 8) : gC Y yX9_init cX9_init 1 none ({ frames := 1, cells := 2, slots := 104, locals := 12 } : Room) [.ref q] K N I A R Q (fun v K' N' I' A' R' Q' => v = none ∧ I' = I ∧ Q' = Q ∧ ∃ a b, K a = 0 ∧ K b = 0 ∧ a ≠ b ∧ K' = va_up (va_up K a 12) b 13 ∧ N' = va_up (va_up N a 100) b 4 ∧ A' = g_zr (g_zr A a 0) b 0 ∧ R' = g_up (g_up R 140 q (some a)) 145 q (some b)) gno := by
  refine gC_of (by decide) (Nat.le_of_ble_eq_true rfl) (fun X => ?_)
  refine g_aload_n dX9_init_0 rfl rfl ?_
  refine g_objInit dX9_init_1 mw_275 mw_50 mw_51 (by decide) (by decide) ?_
  refine g_aload_n dX9_init_4 rfl rfl ?_
  refine g_bipush dX9_init_5 (by decide) ?_
  refine g_newa_c (m := 100) dX9_init_7 mw_299 (by decide) (by decide) (by decide) (by decide) (fun a K7 N7 A7 za hK7 hN7 hA7 => ?_)
  have hK2 : K7 q = 8 := by rw [hK7, va_up_ne _ _ (fun e => by rw [e, za] at hK; cases hK)]; exact hK
  refine g_put_Script_signs dX9_init_9 mw_276 (by rw [hK7, va_up_ne _ _ (fun e => by rw [e, za] at hK; cases hK)]; exact hK) rfl rfl (fun R9 hR9 => ?_)
  refine g_aload_n dX9_init_12 rfl rfl ?_
  refine g_iconst dX9_init_13 ?_
  refine g_newa_i (m := 4) dX9_init_14 mw_84 (by decide) (by decide) (by decide) (by decide) (fun b K14 N14 A14 zb hK14 hN14 hA14 => ?_)
  refine g_put_Script_arguments dX9_init_16 mw_282 (by rw [hK14, va_up_ne _ _ (fun e => by rw [e] at hK2; rw [zb] at hK2; cases hK2)]; exact hK2) rfl rfl (fun R16 hR16 => ?_)
  exact g_vret dX9_init_19 rfl (by decide) (by decide) ⟨rfl, rfl, rfl, a, b, za, by
      by_cases e : b = a
      · rw [e, hK7, va_up_self] at zb; cases zb
      · rw [hK7, va_up_ne _ _ e] at zb; exact zb, (fun e => by
      rw [← e, hK7, va_up_self] at zb; cases zb), by rw [hK14, hK7], by rw [hN14, hN7], by rw [hA14, hA7], by rw [hR16, hR9]⟩
set_option maxHeartbeats 1000000 in
set_option maxRecDepth 100000 in
theorem k_N_History (Y : gEnv) {K N : Nat → Nat} {I : Nat → Nat → Int} {A : Nat → Int → Int} {R : Nat → Nat → Option Nat} {Q : Nat → Int → Option Nat} {q : Nat} (hK : K q = 4) : gC Y yX5_init cX5_init 1 none ({ frames := 1, cells := 1, slots := 6, locals := 12 } : Room) [.ref q] K N I A R Q (fun v K' N' I' A' R' Q' => v = none ∧ I' = I ∧ A' = A ∧ ∃ a, K a = 0 ∧ K' = va_up K a 20 ∧ N' = va_up N a 6 ∧ Q' = g_zr Q a none ∧ ∃ f, R' = g_up R f q (some a) ∧ f = 60) gno := by
  refine gC_of (by decide) (Nat.le_of_ble_eq_true rfl) (fun X => ?_)
  refine g_aload_n dX5_init_0 rfl rfl ?_
  refine g_objInit dX5_init_1 mw_259 mw_50 mw_51 (by decide) (by decide) ?_
  refine g_aload_n dX5_init_4 rfl rfl ?_
  refine g_bipush dX5_init_5 (by decide) ?_
  refine g_newq_State (m := 6) dX5_init_7 mw_260 (by decide) (by decide) (by decide) (by decide) (fun q7 K7 N7 Q7 z7 hK7 hN7 hQ7 => ?_)
  refine g_put_History_saved dX5_init_10 mw_262 (by rw [hK7, va_up_ne _ _ (fun e => by rw [e, z7] at hK; cases hK)]; exact hK) rfl rfl (fun R10 hR10 => ?_)
  exact g_vret dX5_init_13 rfl (by decide) (by decide) ⟨rfl, rfl, rfl, q7, z7, hK7, hN7, hQ7, _, hR10, rfl⟩
