/-! ===== two factories beside each other ===== -/
def cCel (K : Nat → Nat) (Q : Nat → Int → Option Nat) (G : Nat → Nat × Int) (x s h hq sc sg ar b : Nat) : Prop := K b ≠ 0 ∧ (b = x ∨ b = h ∨ b = hq ∨ b = sc ∨ b = sg ∨ b = ar ∨ (G b).1 = s ∨ ∃ i : Int, 0 ≤ i ∧ i < 6 ∧ Q hq i = some (G b).1)
section KG
variable {K N : Nat → Nat} {I : Nat → Nat → Int} {A : Nat → Int → Int} {R : Nat → Nat → Option Nat} {Q : Nat → Int → Option Nat} {G : Nat → Nat × Int} {K1 : Nat → Nat} {G1 : Nat → Nat × Int} {s : Nat}
theorem cRow.kg {f kd cl n : Nat} (h : cRow K N R Q G s f kd cl n) (e : ∀ b, (G b).1 = s → K1 b = K b ∧ G1 b = G b) : cRow K1 N R Q G1 s f kd cl n := by
  obtain ⟨h1, h2, h3, h4, h5⟩ := h
  have e4 := e (aArr R s f) (by rw [h4])
  refine ⟨h1, e4.1.trans h2, h3, e4.2.trans h4, fun i a b => ?_⟩
  obtain ⟨r1, r2, r3⟩ := h5 i a b
  have e5 := e (aRow R Q s f i) (by rw [r3])
  exact ⟨r1, e5.1.trans r2, e5.2.trans r3⟩
theorem cSh.kg (h : cSh K N R Q G s) (e : ∀ b, (G b).1 = s → K1 b = K b ∧ G1 b = G b) : cSh K1 N R Q G1 s := by
  obtain ⟨h1, h2, a, b, c, d, f⟩ := h
  have e2 := e s (by rw [h2])
  exact ⟨e2.1.trans h1, e2.2.trans h2, a.kg e, b.kg e, c.kg e, d.kg e, f.kg e⟩
theorem cEv.kg {ev kq nq : Nat} (h : cEv K N R G s ev kq nq) (e : ∀ b, (G b).1 = s → K1 b = K b ∧ G1 b = G b) : cEv K1 N R G1 s ev kq nq := by
  obtain ⟨h1, h2, h3, h4, h5, h6, h7, h8, h9, h10, h11, h12⟩ := h
  have a := e ev (by rw [h10])
  have b := e kq (by rw [h11])
  have c := e nq (by rw [h12])
  exact ⟨h1, a.1.trans h2, h3, h4, b.1.trans h5, h6, c.1.trans h7, h8, h9, a.2.trans h10, b.2.trans h11, c.2.trans h12⟩
theorem cSt.kg (h : cSt K N I R Q G s) (e : ∀ b, (G b).1 = s → K1 b = K b ∧ G1 b = G b) : cSt K1 N I R Q G1 s := by
  obtain ⟨h1, h2, ev, kq, nq, h3⟩ := h
  exact ⟨h1.kg e, h2, ev, kq, nq, h3.kg e⟩
theorem cSv.kg {W : Int → Int} (h : cSv K N I A R Q G s W) (e : ∀ b, (G b).1 = s → K1 b = K b ∧ G1 b = G b) : cSv K1 N I A R Q G1 s W := by
  obtain ⟨h1, h2, ev, kq, nq, h3, h4⟩ := h
  exact ⟨h1, h2, ev, kq, nq, h3.kg e, h4⟩
end KG
/-- a factory whose own cells are left alone -/
theorem cI.loc {K N : Nat → Nat} {I : Nat → Nat → Int} {A : Nat → Int → Int} {R : Nat → Nat → Option Nat} {Q : Nat → Int → Option Nat} {G : Nat → Nat × Int} {M : Nat → Prop} {x s h hq sc sg ar : Nat} {W SV T : Int → Int} {n len : Int} {K1 N1 : Nat → Nat} {I1 : Nat → Nat → Int} {A1 : Nat → Int → Int} {R1 : Nat → Nat → Option Nat} {Q1 : Nat → Int → Option Nat} {M1 : Nat → Prop} (hI : cI K N I A R Q G M x s h hq sc sg ar W n SV T len) (hf : gFm (cCel K Q G x s h hq sc sg ar) K N I A R Q K1 N1 I1 A1 R1 Q1) (hM : ∀ b, M1 b → K1 b ≠ 0 ∧ ¬ cCel K Q G x s h hq sc sg ar b) : ∃ G1 : Nat → Nat × Int, cI K1 N1 I1 A1 R1 Q1 G1 M1 x s h hq sc sg ar W n SV T len ∧ ∀ b, cCel K1 Q1 G1 x s h hq sc sg ar b ↔ cCel K Q G x s h hq sc sg ar b := by
  classical
  obtain ⟨⟨x1, x2, x3, x4⟩, ⟨h1, h2, h3, h4, h5, h6, h7⟩, ⟨⟨d1, d2, d3, d4, d5, d6, d7⟩, c2, c3⟩, st, sv, hs, ⟨g1, g2, g3, g4, g5, g6, g7⟩, hM0⟩ := hI
  have hx : cCel K Q G x s h hq sc sg ar x := ⟨by rw [x1]; decide, Or.inl rfl⟩
  have hh : cCel K Q G x s h hq sc sg ar h := ⟨by rw [h1]; decide, Or.inr (Or.inl rfl)⟩
  have hhq : cCel K Q G x s h hq sc sg ar hq := ⟨by rw [h3]; decide, Or.inr (Or.inr (Or.inl rfl))⟩
  have hsc : cCel K Q G x s h hq sc sg ar sc := ⟨by rw [d1]; decide, Or.inr (Or.inr (Or.inr (Or.inl rfl)))⟩
  have hsg : cCel K Q G x s h hq sc sg ar sg := ⟨by rw [d3]; decide, Or.inr (Or.inr (Or.inr (Or.inr (Or.inl rfl))))⟩
  have har : cCel K Q G x s h hq sc sg ar ar := ⟨by rw [d6]; decide, Or.inr (Or.inr (Or.inr (Or.inr (Or.inr (Or.inl rfl)))))⟩
  have kz : ∀ t b, K t = 9 → (G b).1 = t → K b ≠ 0 := fun t b ht e z => by
    rw [g7 b z] at e
    have e' : b = t := e
    rw [e', ht] at z; cases z
  have is : ∀ b, (G b).1 = s → cCel K Q G x s h hq sc sg ar b := fun b e => ⟨kz s b st.1.1 e, Or.inr (Or.inr (Or.inr (Or.inr (Or.inr (Or.inr (Or.inl e))))))⟩
  have it : ∀ i : Int, 0 ≤ i → i < 6 → ∀ t, Q hq i = some t → ∀ b, (G b).1 = t → cCel K Q G x s h hq sc sg ar b := fun i a c t e b z => ⟨kz t b (hs.1 i a c t e).1.1.1 z, Or.inr (Or.inr (Or.inr (Or.inr (Or.inr (Or.inr (Or.inr ⟨i, a, c, by rw [e, z]⟩))))))⟩
  obtain ⟨G1, hG1, hG0⟩ : ∃ G1 : Nat → Nat × Int, (∀ b, cCel K Q G x s h hq sc sg ar b → G1 b = G b) ∧ (∀ b, ¬ cCel K Q G x s h hq sc sg ar b → G1 b = (b, 0)) := ⟨fun b => if cCel K Q G x s h hq sc sg ar b then G b else (b, 0), fun b hb => if_pos hb, fun b hb => if_neg hb⟩
  obtain ⟨KR, kr1, kr0⟩ : ∃ KR : Nat → Nat, (∀ b, cCel K Q G x s h hq sc sg ar b → KR b = K b) ∧ (∀ b, ¬ cCel K Q G x s h hq sc sg ar b → KR b = 0) := ⟨fun b => if cCel K Q G x s h hq sc sg ar b then K b else 0, fun b hb => if_pos hb, fun b hb => if_neg hb⟩
  have gx : gEx hq KR N I A R Q G1 K1 N1 I1 A1 R1 Q1 G1 := fun b hb => by
    have hc : cCel K Q G x s h hq sc sg ar b := Decidable.byContradiction (fun e => hb (kr0 b e))
    obtain ⟨p1, p2, p3, p4, p5, p6⟩ := hf b hc
    exact ⟨p1.trans (kr1 b hc).symm, p2, rfl, fun _ => ⟨p3, p4, p5, p6⟩⟩
  have kd : sKd (KR hq) := by rw [kr1 hq hhq, h3]; unfold sKd; omega
  have es : ∀ b, (G b).1 = s → KR b = K b ∧ G1 b = G b := fun b e => ⟨kr1 b (is b e), hG1 b (is b e)⟩
  have et : ∀ i : Int, 0 ≤ i → i < 6 → ∀ t, Q hq i = some t → ∀ b, (G b).1 = t → KR b = K b ∧ G1 b = G b := fun i a c t e b z => ⟨kr1 b (it i a c t e b z), hG1 b (it i a c t e b z)⟩
  have st1 := st.kg es
  have sv1 := sv.kg es
  have hs1 : cHs KR N I A R Q G1 s hq n SV := ⟨fun i a b t e => ⟨(hs.1 i a b t e).1.kg (et i a b t e), (hs.1 i a b t e).2⟩, fun i a b => by
    obtain ⟨t, e, u⟩ := hs.2 i a b
    exact ⟨t, e, u.kg (et i a (by omega) t e)⟩⟩
  have fx := hf x hx
  have fh := hf h hh
  have fq := hf hq hhq
  have fc := hf sc hsc
  have fg := hf sg hsg
  have fa := hf ar har
  have qhq : Q1 hq = Q hq := fq.2.2.2.2.2
  have z : ∀ b, K1 b = 0 → G1 b = (b, 0) := fun b hb => by
    by_cases c : cCel K Q G x s h hq sc sg ar b
    · exact absurd ((hf b c).1.symm.trans hb) c.1
    · exact hG0 b c
  refine ⟨G1, ⟨⟨fx.1.trans x1, (fx.2.2.2.2.1 _).trans x2, (fx.2.2.2.2.1 _).trans x3, (fx.2.2.2.2.1 _).trans x4⟩, ⟨fh.1.trans h1, (fh.2.2.2.2.1 _).trans h2, fq.1.trans h3, fq.2.1.trans h4, (fh.2.2.1 _).trans h5, h6, h7⟩, ⟨⟨fc.1.trans d1, (fc.2.2.2.2.1 _).trans d2, fg.1.trans d3, fg.2.1.trans d4, (fc.2.2.2.2.1 _).trans d5, fa.1.trans d6, fa.2.1.trans d7⟩, (fc.2.2.1 _).trans c2, fg.2.2.2.1.trans c3⟩, st1.keep gx kd, sv1.keep st1.1 gx kd, hs1.keep h7 gx kd qhq, ⟨by rw [hG1 x hx]; exact g1, by rw [hG1 h hh]; exact g2, by rw [hG1 hq hhq]; exact g3, by rw [hG1 sc hsc]; exact g4, by rw [hG1 sg hsg]; exact g5, by rw [hG1 ar har]; exact g6, z⟩, fun b hb => ?_⟩, fun b => ⟨fun hb => ?_, fun c => ?_⟩⟩
  · obtain ⟨m1, m2⟩ := hM b hb
    have ng := hG0 b m2
    refine ⟨m1, ⟨fun e => m2 (by rw [e]; exact is s (by rw [st.1.2.1])), fun i a c e => ?_⟩, by rw [ng], fun e => m2 (by rw [e]; exact hx), fun e => m2 (by rw [e]; exact hh), fun e => m2 (by rw [e]; exact hhq), fun e => m2 (by rw [e]; exact hsc), fun e => m2 (by rw [e]; exact hsg), fun e => m2 (by rw [e]; exact har)⟩
    rw [qhq] at e
    exact m2 (it i a c b e b (by rw [(hs.1 i a c b e).1.1.2.1]))
  · refine Decidable.byContradiction (fun c => ?_)
    obtain ⟨-, o⟩ := hb
    rw [hG0 b c] at o
    rcases o with e | e | e | e | e | e | e | ⟨i, a, d, e⟩
    · exact c (by rw [e]; exact hx)
    · exact c (by rw [e]; exact hh)
    · exact c (by rw [e]; exact hhq)
    · exact c (by rw [e]; exact hsc)
    · exact c (by rw [e]; exact hsg)
    · exact c (by rw [e]; exact har)
    · have e' : b = s := e
      exact c (by rw [e']; exact is s (by rw [st.1.2.1]))
    · rw [qhq] at e
      have e' : Q hq i = some b := e
      exact c (it i a d b e' b (by rw [(hs.1 i a d b e').1.1.2.1]))
  · refine ⟨by rw [(hf b c).1]; exact c.1, ?_⟩
    rw [hG1 b c, qhq]
    exact c.2
/-- two factories, apart -/
def pI (K N : Nat → Nat) (I : Nat → Nat → Int) (A : Nat → Int → Int) (R : Nat → Nat → Option Nat) (Q : Nat → Int → Option Nat) (x s h hq sc sg ar x' s' h' hq' sc' sg' ar' : Nat) (W : Int → Int) (n : Int) (SV T : Int → Int) (len : Int) (W' : Int → Int) (n' : Int) (SV' T' : Int → Int) (len' : Int) : Prop := ∃ G G' : Nat → Nat × Int, cI K N I A R Q G (cCel K Q G' x' s' h' hq' sc' sg' ar') x s h hq sc sg ar W n SV T len ∧ cI K N I A R Q G' (cCel K Q G x s h hq sc sg ar) x' s' h' hq' sc' sg' ar' W' n' SV' T' len'
section PI
variable {K N : Nat → Nat} {I : Nat → Nat → Int} {A : Nat → Int → Int} {R : Nat → Nat → Option Nat} {Q : Nat → Int → Option Nat} {x s h hq sc sg ar x' s' h' hq' sc' sg' ar' : Nat} {W SV T W' SV' T' : Int → Int} {n len n' len' : Int}
theorem pI.sym (h0 : pI K N I A R Q x s h hq sc sg ar x' s' h' hq' sc' sg' ar' W n SV T len W' n' SV' T' len') : pI K N I A R Q x' s' h' hq' sc' sg' ar' x s h hq sc sg ar W' n' SV' T' len' W n SV T len := by
  obtain ⟨G, G', a, b⟩ := h0
  exact ⟨G', G, b, a⟩
/-- the first of the two was handled -/
theorem pI.mk {G' G1 : Nat → Nat × Int} {M : Nat → Prop} {K1 N1 : Nat → Nat} {I1 : Nat → Nat → Int} {A1 : Nat → Int → Int} {R1 : Nat → Nat → Option Nat} {Q1 : Nat → Int → Option Nat} (h2 : cI K N I A R Q G' M x' s' h' hq' sc' sg' ar' W' n' SV' T' len') (h1 : cI K1 N1 I1 A1 R1 Q1 G1 (cCel K Q G' x' s' h' hq' sc' sg' ar') x s h hq sc sg ar W n SV T len) (hf : gFm (cCel K Q G' x' s' h' hq' sc' sg' ar') K N I A R Q K1 N1 I1 A1 R1 Q1) : pI K1 N1 I1 A1 R1 Q1 x s h hq sc sg ar x' s' h' hq' sc' sg' ar' W n SV T len W' n' SV' T' len' := by
  obtain ⟨G2, q1, q2⟩ := h2.loc (M1 := cCel K1 Q1 G1 x s h hq sc sg ar) hf (fun b hb => ⟨hb.1, fun c => by
    obtain ⟨m1, ⟨m2, m3⟩, m4, m5, m6, m7, m8, m9, m10⟩ := h1.2.2.2.2.2.2.2 b c
    obtain ⟨-, o⟩ := hb
    rw [m4] at o
    rcases o with e | e | e | e | e | e | e | ⟨i, a, d, e⟩
    · exact m5 e
    · exact m6 e
    · exact m7 e
    · exact m8 e
    · exact m9 e
    · exact m10 e
    · exact m2 e
    · exact m3 i a d e⟩)
  refine ⟨G1, G2, ?_, q1⟩
  rw [show cCel K1 Q1 G2 x' s' h' hq' sc' sg' ar' = cCel K Q G' x' s' h' hq' sc' sg' ar' from funext (fun b => propext (q2 b))]
  exact h1
end PI
/-- what a call that the law makes leaves: an answer, and the factory as told -/
def lqP (K N : Nat → Nat) (I : Nat → Nat → Int) (A : Nat → Int → Int) (R : Nat → Nat → Option Nat) (Q : Nat → Int → Option Nat) (M : Nat → Prop) (x s h hq sc sg ar : Nat) (z : Value) (W : Int → Int) (n : Int) (SV T : Int → Int) (len : Int) : gPo := fun v K' N' I' A' R' Q' => v = some z ∧ ∃ G' : Nat → Nat × Int, cI K' N' I' A' R' Q' G' M x s h hq sc sg ar W n SV T len ∧ gFm M K N I A R Q K' N' I' A' R' Q'
/-- the answer of a call that may throw -/
def lqV (code : Int) (val : Value) (l : List Value) : Value := if code = 0 then val else l.getD (code - 1).toNat val
