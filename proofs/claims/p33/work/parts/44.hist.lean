theorem iN.cg {w w' : Int → Int} (h : iN w) (e : ∀ j, 0 ≤ j → j < 1618 → w' j = w j) : iN w' := by
  obtain ⟨hG, hO, hB, hP, hL, hD, hS, hE⟩ := h
  have he : iE w' := by unfold iE at hE ⊢; rw [e 1616 (by omega) (by omega)]; exact hE
  have c0 : ∀ l, 0 ≤ l → l < w 1614 → sContent w' l = sContent w l := fun l a b => by
    have := hL.2.1
    simp only [sContent]
    rw [e (890 + l) (by omega) (by omega), e (1050 + l) (by omega) (by omega), e 89 (by omega) (by omega)]
  have e13 := e 1613 (by omega) (by omega)
  have e14 := e 1614 (by omega) (by omega)
  have e15 := e 1615 (by omega) (by omega)
  have eP : sumP w' = sumP w := by
    simp only [sumP]
    rw [e13]
    exact sSum_congrI (fun j a b => e _ (by have := hP.2.1; omega) (by have := hP.2.1; omega))
  have eL : sumL w' = sumL w := by
    simp only [sumL]
    rw [e14]
    exact sSum_congrI c0
  have eO : sumO w' = sumO w := by
    simp only [sumO]
    rw [e15]
    exact sSum_congrI (fun j a b => e _ (by have := hD.2.1; omega) (by have := hD.2.1; omega))
  have eV : sumV w' = sumV w := by
    simp only [sumV]
    rw [e15]
    exact sSum_congrI (fun j a b => e _ (by have := hD.2.1; omega) (by have := hD.2.1; omega))
  refine ⟨hG.of (fun j a b => e j (by omega) (by omega)), hO.of (fun j a b => e j (by omega) (by omega)), fun i a b => ?_, hP.of (fun j a b => e j (by omega) (by omega)) e13, ?_, ?_, ?_, he⟩
  · rw [e (64 + i) (by omega) (by omega), e 1610 (by omega) (by omega)]
    exact hB i a b
  · obtain ⟨h1, h2, h3, h4⟩ := hL
    refine ⟨by omega, by omega, fun l a b => ?_, fun l m a b c => ?_⟩
    · rw [c0 l a (by omega), e (410 + l) (by omega) (by omega), e (570 + l) (by omega) (by omega), e (730 + l) (by omega) (by omega), e (890 + l) (by omega) (by omega), e (1050 + l) (by omega) (by omega), e (1210 + l) (by omega) (by omega)]
      exact h3 l a (by omega)
    · rw [e (410 + l) (by omega) (by omega), e (570 + l) (by omega) (by omega), e (730 + l) (by omega) (by omega), e (410 + m) (by omega) (by omega), e (570 + m) (by omega) (by omega), e (730 + m) (by omega) (by omega)]
      exact h4 l m a b (by omega)
  · obtain ⟨h1, h2, h3⟩ := hD
    refine ⟨by omega, by omega, fun d a b => ?_⟩
    rw [e (1370 + d) (by omega) (by omega), e (1410 + d) (by omega) (by omega), e (1450 + d) (by omega) (by omega), e (1490 + d) (by omega) (by omega), e (1530 + d) (by omega) (by omega), e14]
    exact h3 d a (by omega)
  · simp only [iS]
    rw [eP, eL, eO, eV, e 88 (by omega) (by omega), e 89 (by omega) (by omega), e 1610 (by omega) (by omega), e 1611 (by omega) (by omega), e 1612 (by omega) (by omega), e 1617 (by omega) (by omega)]
    exact hS
theorem g_aaldR_State {Y : gEnv} {X : gCtx} {y : MethodName} {cc : ByteArray} {nL : Nat} {ret : Option FieldType} {rm : Room} {po : gPo} {px : gPx} {k n pc : Nat} {L : List (Nat × Value)} {st : List Value} {K N : Nat → Nat} {I : Nat → Nat → Int} {A : Nat → Int → Int} {R : Nat → Nat → Option Nat} {Q : Nat → Int → Option Nat} {q : Nat} {i : Int} (hd : decode cc pc = .ok (.aaload, 1)) (hK : K q = 20) (hN : N q ≤ 2147483647) (hi : 0 ≤ i ∧ i < N q) (kk : gJ Y X y cc nL ret rm po px k n (pc + 1) L (va_rf (Q q i) :: st) K N I A R Q) : gJ Y X y cc nL ret rm po px k n pc L (vi i :: .ref q :: st) K N I A R Q := by
  intro hx H locs ls hW hS hl
  have hW2 := hW
  obtain ⟨Ls, hL, hP, hD⟩ := hW
  obtain ⟨j0, hj0⟩ := va_pl_get (X := []) (f := (g_cell Y.2.2.1 K N I A R Q)) ((hL q).mpr (by rw [hK]; decide))
  rw [g_ar8 hK] at hj0
  refine va_aldq (C := "TileFactory$State") hx.1 hx.2.1 hx.2.2.2.2.2.1 hP j0 8 hj0 rfl (i32_in hi hN) hd ?_
  rw [i32_nat (by omega), Int.toNat_of_nonneg hi.1]
  exact kk hx H locs ls hW2 hS hl
theorem ag.cg {V W W' : Int → Int} (h : ag V W) (e : ∀ j, 0 ≤ j → j < 1618 → W' j = W j) : ag V W' := by
  intro j hj
  rw [e 1613 (by omega) (by omega), e 1614 (by omega) (by omega), e 1615 (by omega) (by omega)] at hj
  rw [h j hj]
  exact (e j (by unfold lv at hj; omega) (by unfold lv at hj; omega)).symm
theorem cE.cg {I : Nat → Nat → Int} {A : Nat → Int → Int} {ev kq nq : Nat} {W W' : Int → Int} (h : cE I A ev kq nq W) (h20 : iE W) (e : ∀ j, 0 ≤ j → j < 1618 → W' j = W j) : cE I A ev kq nq W' := cE.of h h20.2 rfl (fun j a b => e j (by omega) (by omega))
def cSt (K N : Nat → Nat) (I : Nat → Nat → Int) (R : Nat → Nat → Option Nat) (Q : Nat → Int → Option Nat) (G : Nat → Nat × Int) (t : Nat) : Prop := cSh K N R Q G t ∧ cSl I R Q t ∧ ∃ ev kq nq, cEv K N R G t ev kq nq
def cSv (K N : Nat → Nat) (I : Nat → Nat → Int) (A : Nat → Int → Int) (R : Nat → Nat → Option Nat) (Q : Nat → Int → Option Nat) (G : Nat → Nat × Int) (t : Nat) (W : Int → Int) : Prop := iN W ∧ ag (cV I R Q t) W ∧ ∃ ev kq nq, cEv K N R G t ev kq nq ∧ cE I A ev kq nq W
theorem cSv.cg {K N : Nat → Nat} {I : Nat → Nat → Int} {A : Nat → Int → Int} {R : Nat → Nat → Option Nat} {Q : Nat → Int → Option Nat} {G : Nat → Nat × Int} {t : Nat} {W W' : Int → Int} (h : cSv K N I A R Q G t W) (e : ∀ j, 0 ≤ j → j < 1618 → W' j = W j) : cSv K N I A R Q G t W' := by
  obtain ⟨h1, h2, ev, kq, nq, h3, h4⟩ := h
  exact ⟨h1.cg e, h2.cg e, ev, kq, nq, h3, h4.cg h1.2.2.2.2.2.2.2 e⟩
/-- a change inside another State -/
theorem cSv.fr {K N : Nat → Nat} {I : Nat → Nat → Int} {A : Nat → Int → Int} {R : Nat → Nat → Option Nat} {Q : Nat → Int → Option Nat} {G : Nat → Nat × Int} {I' : Nat → Nat → Int} {A' : Nat → Int → Int} {t s : Nat} {W : Int → Int} (h : cSv K N I A R Q G t W) (hs : cSh K N R Q G t) (hne : t ≠ s) (hf : cFr G s I I' A A') : cSv K N I' A' R Q G t W := by
  obtain ⟨h1, h2, ev, kq, nq, h3, h4⟩ := h
  refine ⟨h1, by rw [hs.fr hne hf]; exact h2, ev, kq, nq, h3, ?_⟩
  obtain ⟨e1, e2, e3, e4, e5, e6, e7, e8, e9, e10, e11, e12⟩ := h3
  refine ⟨(hf.1 22 ev (by rw [e10]; exact hne)).trans h4.1, fun i a b => ?_⟩
  rw [hf.2.2 kq (by rw [e11]; exact hne), hf.2.2 nq (by rw [e12]; exact hne)]
  exact h4.2 i a b
theorem cSt.fr {K N : Nat → Nat} {I : Nat → Nat → Int} {A : Nat → Int → Int} {R : Nat → Nat → Option Nat} {Q : Nat → Int → Option Nat} {G : Nat → Nat × Int} {I' : Nat → Nat → Int} {A' : Nat → Int → Int} {t s : Nat} (h : cSt K N I R Q G t) (hf : cFr G s I I' A A') : cSt K N I' R Q G t := ⟨h.1, hf.sl h.2.1, h.2.2⟩
def sKd (k : Nat) : Prop := k = 0 ∨ k = 4 ∨ k = 8 ∨ k = 10 ∨ k = 20
theorem cRow.keep {a s f kd cl n : Nat} {K N : Nat → Nat} {I : Nat → Nat → Int} {A : Nat → Int → Int} {R : Nat → Nat → Option Nat} {Q : Nat → Int → Option Nat} {G : Nat → Nat × Int} {K1 N1 : Nat → Nat} {I1 : Nat → Nat → Int} {A1 : Nat → Int → Int} {R1 : Nat → Nat → Option Nat} {Q1 : Nat → Int → Option Nat} {G1 : Nat → Nat × Int} (h : cRow K N R Q G s f kd cl n) (hx : gEx a K N I A R Q G K1 N1 I1 A1 R1 Q1 G1) (hs : K s ≠ 0) (hsa : s ≠ a) (hkd : kd ≠ 0 ∧ K a ≠ kd) (hcl : cl ≠ 0 ∧ K a ≠ cl) : cRow K1 N1 R1 Q1 G1 s f kd cl n ∧ aArr R1 s f = aArr R s f ∧ ∀ i : Int, aRow R1 Q1 s f i = aRow R Q s f i := by
  have h' : cRb K N I R Q G s f kd cl n n vAny := ⟨h.1, h.2.1, h.2.2.1, h.2.2.2.1, fun i p q => by
    obtain ⟨r1, r2, r3⟩ := h.2.2.2.2 i p q
    exact ⟨r1, r2, r3, trivial⟩⟩
  have e1 := ((hx s hs).2.2.2 hsa).2.2.1 f
  have e2 : aArr R1 s f = aArr R s f := by unfold aArr; rw [e1]
  have e3 := hx (aArr R s f) (by rw [h.2.1]; exact hkd.1)
  have e4 := e3.2.2.2 (fun e => hkd.2 (by rw [← e]; exact h.2.1))
  exact ⟨(h'.keep hx hs hsa hkd hcl).row, e2, fun i => by unfold aRow; rw [e2, e4.2.2.2]⟩
theorem cSh.keep {a s : Nat} {K N : Nat → Nat} {I : Nat → Nat → Int} {A : Nat → Int → Int} {R : Nat → Nat → Option Nat} {Q : Nat → Int → Option Nat} {G : Nat → Nat × Int} {K1 N1 : Nat → Nat} {I1 : Nat → Nat → Int} {A1 : Nat → Int → Int} {R1 : Nat → Nat → Option Nat} {Q1 : Nat → Int → Option Nat} {G1 : Nat → Nat × Int} (h : cSh K N R Q G s) (hx : gEx a K N I A R Q G K1 N1 I1 A1 R1 Q1 G1) (ha : sKd (K a)) : cSh K1 N1 R1 Q1 G1 s ∧ ∀ j, cF j ≠ 999 → cA R1 Q1 s j = cA R Q s j ∧ I1 (cF j) (cA R1 Q1 s j) = I (cF j) (cA R Q s j) := by
  obtain ⟨k0, g0, r0, r1, r2, r3, r4⟩ := h
  have hs : K s ≠ 0 := by rw [k0]; decide
  have hsa : s ≠ a := fun e => by rw [← e, k0] at ha; unfold sKd at ha; omega
  have hq : ∀ c, c ≠ 0 → c ≠ 4 → c ≠ 8 → c ≠ 10 → c ≠ 20 → c ≠ 0 ∧ K a ≠ c := fun c q1 q2 q3 q4 q5 => ⟨q1, by unfold sKd at ha; omega⟩
  have a0 := r0.keep hx hs hsa (hq _ (by decide) (by decide) (by decide) (by decide) (by decide)) (hq _ (by decide) (by decide) (by decide) (by decide) (by decide))
  have a1 := r1.keep hx hs hsa (hq _ (by decide) (by decide) (by decide) (by decide) (by decide)) (hq _ (by decide) (by decide) (by decide) (by decide) (by decide))
  have a2 := r2.keep hx hs hsa (hq _ (by decide) (by decide) (by decide) (by decide) (by decide)) (hq _ (by decide) (by decide) (by decide) (by decide) (by decide))
  have a3 := r3.keep hx hs hsa (hq _ (by decide) (by decide) (by decide) (by decide) (by decide)) (hq _ (by decide) (by decide) (by decide) (by decide) (by decide))
  have a4 := r4.keep hx hs hsa (hq _ (by decide) (by decide) (by decide) (by decide) (by decide)) (hq _ (by decide) (by decide) (by decide) (by decide) (by decide))
  have x1 := hx s hs
  refine ⟨⟨x1.1.trans k0, x1.2.2.1.trans g0, a0.1, a1.1, a2.1, a3.1, a4.1⟩, fun j hj => ?_⟩
  obtain ⟨q0, q1, q2, q3, q4, q5, q6⟩ := cF_all j hj
  have row : ∀ (f kd cl n : Nat), cRow K N R Q G s f kd cl n → (∀ i : Int, aRow R1 Q1 s f i = aRow R Q s f i) → cl ≠ 0 ∧ K a ≠ cl → ∀ i : Int, 0 ≤ i → i < n → aRow R1 Q1 s f i = aRow R Q s f i ∧ I1 (cF j) (aRow R1 Q1 s f i) = I (cF j) (aRow R Q s f i) := fun f kd cl n h e hc i p q => by
    have r := (h.2.2.2.2 i p q).2.1
    rw [e i]
    exact ⟨rfl, (((hx _ (by rw [r]; exact hc.1)).2.2.2 (fun z => hc.2 (by rw [← z]; exact r))).1 _)⟩
  simp only [cA]
  rcases q6 with q | q | q | q | q | q
  · rw [q, if_pos rfl, if_pos rfl]; exact ⟨rfl, (x1.2.2.2 hsa).1 _⟩
  · obtain ⟨u, v⟩ := q1 q
    rw [q, if_neg (by decide), if_neg (by decide)]; exact row _ _ _ _ r0 a0.2.2 (hq _ (by decide) (by decide) (by decide) (by decide) (by decide)) _ u v
  · obtain ⟨u, v⟩ := q2 q
    rw [q, if_neg (by decide), if_neg (by decide)]; exact row _ _ _ _ r1 a1.2.2 (hq _ (by decide) (by decide) (by decide) (by decide) (by decide)) _ u v
  · obtain ⟨u, v⟩ := q3 q
    rw [q, if_neg (by decide), if_neg (by decide)]; exact row _ _ _ _ r2 a2.2.2 (hq _ (by decide) (by decide) (by decide) (by decide) (by decide)) _ u v
  · obtain ⟨u, v⟩ := q4 q
    rw [q, if_neg (by decide), if_neg (by decide)]; exact row _ _ _ _ r3 a3.2.2 (hq _ (by decide) (by decide) (by decide) (by decide) (by decide)) _ u v
  · obtain ⟨u, v⟩ := q5 q
    rw [q, if_neg (by decide), if_neg (by decide)]; exact row _ _ _ _ r4 a4.2.2 (hq _ (by decide) (by decide) (by decide) (by decide) (by decide)) _ u v
theorem cSh.keepV {a s : Nat} {K N : Nat → Nat} {I : Nat → Nat → Int} {A : Nat → Int → Int} {R : Nat → Nat → Option Nat} {Q : Nat → Int → Option Nat} {G : Nat → Nat × Int} {K1 N1 : Nat → Nat} {I1 : Nat → Nat → Int} {A1 : Nat → Int → Int} {R1 : Nat → Nat → Option Nat} {Q1 : Nat → Int → Option Nat} {G1 : Nat → Nat × Int} (h : cSh K N R Q G s) (hx : gEx a K N I A R Q G K1 N1 I1 A1 R1 Q1 G1) (ha : sKd (K a)) : cV I1 R1 Q1 s = cV I R Q s := by
  funext j
  simp only [cV]
  by_cases z : cF j = 999
  · rw [if_pos z, if_pos z]
  · rw [if_neg z, if_neg z]; exact ((h.keep hx ha).2 j z).2
theorem cEv.keep {a s ev kq nq : Nat} {K N : Nat → Nat} {I : Nat → Nat → Int} {A : Nat → Int → Int} {R : Nat → Nat → Option Nat} {Q : Nat → Int → Option Nat} {G : Nat → Nat × Int} {K1 N1 : Nat → Nat} {I1 : Nat → Nat → Int} {A1 : Nat → Int → Int} {R1 : Nat → Nat → Option Nat} {Q1 : Nat → Int → Option Nat} {G1 : Nat → Nat × Int} (h : cEv K N R G s ev kq nq) (k0 : K s = 9) (hx : gEx a K N I A R Q G K1 N1 I1 A1 R1 Q1 G1) (ha : sKd (K a)) : cEv K1 N1 R1 G1 s ev kq nq ∧ I1 22 ev = I 22 ev ∧ A1 kq = A kq ∧ A1 nq = A nq := by
  obtain ⟨h1, h2, h3, h4, h5, h6, h7, h8, h9, h10, h11, h12⟩ := h
  have hq : ∀ c b, K b = c → c ≠ 0 → c ≠ 4 → c ≠ 8 → c ≠ 10 → c ≠ 20 → b ≠ a := fun c b e q1 q2 q3 q4 q5 z => by rw [z] at e; unfold sKd at ha; omega
  have x1 := (hx s (by rw [k0]; decide)).2.2.2 (hq _ _ k0 (by decide) (by decide) (by decide) (by decide) (by decide))
  have x2 := hx ev (by rw [h2]; decide)
  have x3 := x2.2.2.2 (hq _ _ h2 (by decide) (by decide) (by decide) (by decide) (by decide))
  have x4 := hx kq (by rw [h5]; decide)
  have x6 := x4.2.2.2 (hq _ _ h5 (by decide) (by decide) (by decide) (by decide) (by decide))
  have x5 := hx nq (by rw [h7]; decide)
  have x7 := x5.2.2.2 (hq _ _ h7 (by decide) (by decide) (by decide) (by decide) (by decide))
  exact ⟨⟨(x1.2.2.1 _).trans h1, x2.1.trans h2, (x3.2.2.1 _).trans h3, (x3.2.2.1 _).trans h4, x4.1.trans h5, x4.2.1.trans h6, x5.1.trans h7, x5.2.1.trans h8, h9, x2.2.2.1.trans h10, x4.2.2.1.trans h11, x5.2.2.1.trans h12⟩, x3.1 _, x6.2.1, x7.2.1⟩
theorem cSt.keep {a t : Nat} {K N : Nat → Nat} {I : Nat → Nat → Int} {A : Nat → Int → Int} {R : Nat → Nat → Option Nat} {Q : Nat → Int → Option Nat} {G : Nat → Nat × Int} {K1 N1 : Nat → Nat} {I1 : Nat → Nat → Int} {A1 : Nat → Int → Int} {R1 : Nat → Nat → Option Nat} {Q1 : Nat → Int → Option Nat} {G1 : Nat → Nat × Int} (h : cSt K N I R Q G t) (hx : gEx a K N I A R Q G K1 N1 I1 A1 R1 Q1 G1) (ha : sKd (K a)) : cSt K1 N1 I1 R1 Q1 G1 t := by
  obtain ⟨h1, h2, ev, kq, nq, h3⟩ := h
  have e := h1.keep hx ha
  refine ⟨e.1, fun i p q => ?_, ev, kq, nq, (h3.keep h1.1 hx ha).1⟩
  have f1 := cf_121 p q
  have f2 := (e.2 (16 + i) (by rw [f1.1]; decide)).1
  rw [f1.2, f1.2] at f2
  have r := (h1.2.2.2.1.2.2.2.2 i p q).2.1
  rw [f2, ((hx _ (by rw [r]; decide)).2.2.2 (fun z => by rw [← z, r] at ha; unfold sKd at ha; omega)).1]
  exact h2 i p q
theorem cSv.keep {a t : Nat} {W : Int → Int} {K N : Nat → Nat} {I : Nat → Nat → Int} {A : Nat → Int → Int} {R : Nat → Nat → Option Nat} {Q : Nat → Int → Option Nat} {G : Nat → Nat × Int} {K1 N1 : Nat → Nat} {I1 : Nat → Nat → Int} {A1 : Nat → Int → Int} {R1 : Nat → Nat → Option Nat} {Q1 : Nat → Int → Option Nat} {G1 : Nat → Nat × Int} (h : cSv K N I A R Q G t W) (hs : cSh K N R Q G t) (hx : gEx a K N I A R Q G K1 N1 I1 A1 R1 Q1 G1) (ha : sKd (K a)) : cSv K1 N1 I1 A1 R1 Q1 G1 t W := by
  obtain ⟨h1, h2, ev, kq, nq, h3, h4⟩ := h
  obtain ⟨e1, e2, e3, e4⟩ := h3.keep hs.1 hx ha
  refine ⟨h1, by rw [hs.keepV hx ha]; exact h2, ev, kq, nq, e1, e2.trans h4.1, fun i a b => ?_⟩
  rw [e3, e4]
  exact h4.2 i a b
def sW (SV : Int → Int) (i : Int) : Int → Int := fun j => if 0 ≤ j ∧ j < 1618 then SV (i * 1618 + j) else 0
theorem sW_in {SV : Int → Int} {i j : Int} (a : 0 ≤ j) (b : j < 1618) : sW SV i j = SV (i * 1618 + j) := if_pos ⟨a, b⟩
/-- the saved states -/
def cHs (K N : Nat → Nat) (I : Nat → Nat → Int) (A : Nat → Int → Int) (R : Nat → Nat → Option Nat) (Q : Nat → Int → Option Nat) (G : Nat → Nat × Int) (s hq : Nat) (n : Int) (SV : Int → Int) : Prop := (∀ i, 0 ≤ i → i < 6 → ∀ t, Q hq i = some t → cSt K N I R Q G t ∧ t ≠ s ∧ ∀ j, 0 ≤ j → j < 6 → Q hq j = some t → j = i) ∧ ∀ i, 0 ≤ i → i < n → ∃ t, Q hq i = some t ∧ cSv K N I A R Q G t (sW SV i)
theorem cHs.fr {K N : Nat → Nat} {I : Nat → Nat → Int} {A : Nat → Int → Int} {R : Nat → Nat → Option Nat} {Q : Nat → Int → Option Nat} {G : Nat → Nat × Int} {I' : Nat → Nat → Int} {A' : Nat → Int → Int} {s hq : Nat} {n : Int} {SV : Int → Int} (h : cHs K N I A R Q G s hq n SV) (hn : n ≤ 6) (hf : cFr G s I I' A A') : cHs K N I' A' R Q G s hq n SV := ⟨fun i a b t e => by
    obtain ⟨h1, h2, h3⟩ := h.1 i a b t e
    exact ⟨h1.fr hf, h2, h3⟩, fun i a b => by
    obtain ⟨t, e, h2⟩ := h.2 i a b
    obtain ⟨g1, g2, g3⟩ := h.1 i a (by omega) t e
    exact ⟨t, e, h2.fr g1.1 g2 hf⟩⟩
theorem cHs.keep {a s hq : Nat} {n : Int} {SV : Int → Int} {K N : Nat → Nat} {I : Nat → Nat → Int} {A : Nat → Int → Int} {R : Nat → Nat → Option Nat} {Q : Nat → Int → Option Nat} {G : Nat → Nat × Int} {K1 N1 : Nat → Nat} {I1 : Nat → Nat → Int} {A1 : Nat → Int → Int} {R1 : Nat → Nat → Option Nat} {Q1 : Nat → Int → Option Nat} {G1 : Nat → Nat × Int} (h : cHs K N I A R Q G s hq n SV) (hn : n ≤ 6) (hx : gEx a K N I A R Q G K1 N1 I1 A1 R1 Q1 G1) (ha : sKd (K a)) (hQ : Q1 hq = Q hq) : cHs K1 N1 I1 A1 R1 Q1 G1 s hq n SV := ⟨fun i p q t e => by
    rw [hQ] at e ⊢
    obtain ⟨h1, h2, h3⟩ := h.1 i p q t e
    exact ⟨h1.keep hx ha, h2, h3⟩, fun i p q => by
    rw [hQ]
    obtain ⟨t, e, h2⟩ := h.2 i p q
    obtain ⟨g1, g2, g3⟩ := h.1 i p (by omega) t e
    exact ⟨t, e, h2.keep g1.1 hx ha⟩⟩
theorem cHs.copy {K N : Nat → Nat} {I : Nat → Nat → Int} {A : Nat → Int → Int} {R : Nat → Nat → Option Nat} {Q : Nat → Int → Option Nat} {G : Nat → Nat × Int} {I' : Nat → Nat → Int} {A' : Nat → Int → Int} {s hq t ev kq nq : Nat} {m : Int} {SV W : Int → Int} (h : cHs K N I A R Q G s hq m SV) (hm : 0 ≤ m ∧ m < 6) (ht : Q hq m = some t) (hN : iN W) (hev : cEv K N R G t ev kq nq) (hf : cFr G t I I' A A') (hag : ag (cV I' R Q t) W) (hE : cE I' A' ev kq nq W) : cHs K N I' A' R Q G s hq (m + 1) (sSvC SV W m 1618) := ⟨fun i a b u e => by
    obtain ⟨h1, h2, h3⟩ := h.1 i a b u e
    exact ⟨h1.fr hf, h2, h3⟩, fun i a b => by
    by_cases q : i = m
    · rw [q]
      refine ⟨t, ht, cSv.cg (W := W) ⟨hN, hag, ev, kq, nq, hev, hE⟩ (fun j p q => ?_)⟩
      rw [sW_in p q]
      simp only [sSvC]
      rw [if_pos (by omega), show m * 1618 + j - m * 1618 = j by omega]
    · obtain ⟨u, e, h2⟩ := h.2 i a (by omega)
      obtain ⟨g1, g2, g3⟩ := h.1 i a (by omega) u e
      refine ⟨u, e, cSv.cg (h2.fr g1.1 (fun z => q ?_) hf) (fun j p q => ?_)⟩
      · rw [z] at g3
        exact (g3 m hm.1 hm.2 ht).symm
      · rw [sW_in p q, sW_in p q]
        simp only [sSvC]
        rw [if_neg (by omega)]⟩
theorem cHs.rot {s hq : Nat} {SV : Int → Int} {K N : Nat → Nat} {I : Nat → Nat → Int} {A : Nat → Int → Int} {R : Nat → Nat → Option Nat} {Q : Nat → Int → Option Nat} {G : Nat → Nat × Int} {K1 N1 : Nat → Nat} {I1 : Nat → Nat → Int} {A1 : Nat → Int → Int} {R1 : Nat → Nat → Option Nat} {Q1 : Nat → Int → Option Nat} {G1 : Nat → Nat × Int} (h : cHs K N I A R Q G s hq 6 SV) (hx : gEx hq K N I A R Q G K1 N1 I1 A1 R1 Q1 G1) (hk : K hq = 20) (h1 : ∀ i, 0 ≤ i → i < 5 → Q1 hq i = Q hq (i + 1)) (h2 : Q1 hq 5 = Q hq 0) : cHs K1 N1 I1 A1 R1 Q1 G1 s hq 5 (sSvS SV 8090) := by
  have ha : sKd (K hq) := by rw [hk]; unfold sKd; omega
  have get : ∀ i, 0 ≤ i → i < 6 → Q1 hq i = Q hq (if i = 5 then 0 else i + 1) := fun i a b => by
    by_cases e : i = 5
    · rw [if_pos e, e]; exact h2
    · rw [if_neg e]; exact h1 i a (by omega)
  refine ⟨fun i a b t e => ?_, fun i a b => ?_⟩
  · rw [get i a b] at e
    obtain ⟨g1, g2, g3⟩ := h.1 (if i = 5 then 0 else i + 1) (by split <;> omega) (by split <;> omega) t e
    refine ⟨g1.keep hx ha, g2, fun j p q r => ?_⟩
    rw [get j p q] at r
    have := g3 _ (by split <;> omega) (by split <;> omega) r
    split at this <;> split at this <;> omega
  · obtain ⟨t, e, h3⟩ := h.2 (i + 1) (by omega) (by omega)
    obtain ⟨g1, g2, g3⟩ := h.1 (i + 1) (by omega) (by omega) t e
    refine ⟨t, (h1 i a b).trans e, cSv.cg (h3.keep g1.1 hx ha) (fun j p q => ?_)⟩
    rw [sW_in p q, sW_in p q]
    simp only [sSvS]
    rw [if_pos (by omega), show i * 1618 + j + 1618 = (i + 1) * 1618 + j by omega]
theorem cHs.new {s hq q : Nat} {n : Int} {SV : Int → Int} {K N : Nat → Nat} {I : Nat → Nat → Int} {A : Nat → Int → Int} {R : Nat → Nat → Option Nat} {Q : Nat → Int → Option Nat} {G : Nat → Nat × Int} {K1 N1 : Nat → Nat} {I1 : Nat → Nat → Int} {A1 : Nat → Int → Int} {R1 : Nat → Nat → Option Nat} {Q1 : Nat → Int → Option Nat} {G1 : Nat → Nat × Int} (h : cHs K N I A R Q G s hq n SV) (hn : 0 ≤ n ∧ n < 6) (hx : gEx hq K N I A R Q G K1 N1 I1 A1 R1 Q1 G1) (hk : K hq = 20) (hq0 : K q = 0) (hs : K s = 9) (hnew : cSt K1 N1 I1 R1 Q1 G1 q) (h1 : ∀ i, Q1 hq i = if i = n then some q else Q hq i) (h0 : Q hq n = none) : cHs K1 N1 I1 A1 R1 Q1 G1 s hq n SV := by
  have ha : sKd (K hq) := by rw [hk]; unfold sKd; omega
  have old : ∀ i, 0 ≤ i → i < 6 → Q hq i ≠ some q := fun i a b e => by
    have := (h.1 i a b q e).1.1.1
    rw [hq0] at this; cases this
  refine ⟨fun i a b t e => ?_, fun i a b => ?_⟩
  · rw [h1] at e
    by_cases c : i = n
    · rw [if_pos c] at e
      cases e
      refine ⟨hnew, (fun z => by rw [z, hs] at hq0; cases hq0), fun j p q r => ?_⟩
      rw [h1] at r
      by_cases d : j = n
      · rw [d, c]
      · rw [if_neg d] at r; exact absurd r (old j p q)
    · rw [if_neg c] at e
      obtain ⟨g1, g2, g3⟩ := h.1 i a b t e
      refine ⟨g1.keep hx ha, g2, fun j p q r => ?_⟩
      rw [h1] at r
      by_cases d : j = n
      · rw [if_pos d] at r
        cases r
        exact absurd e (old i a b)
      · rw [if_neg d] at r; exact g3 j p q r
  · obtain ⟨t, e, h2⟩ := h.2 i a b
    obtain ⟨g1, g2, g3⟩ := h.1 i a (by omega) t e
    exact ⟨t, by rw [h1, if_neg (by omega)]; exact e, h2.keep g1.1 hx ha⟩
