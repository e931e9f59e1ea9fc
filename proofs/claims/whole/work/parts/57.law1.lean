def lRes (xm w sv tx ag : Nat) (I1 : Nat → Nat → Int) (A1 : Nat → Int → Int) (code : Int) (W' : Int → Int) (n' : Int) (SV' T' : Int → Int) (len' : Int) (W : Int → Int) (n : Int) (SV T : Int → Int) (len : Int) (I2 : Nat → Nat → Int) (A2 : Nat → Int → Int) : Prop := I2 206 xm = code ∧ (∀ b, b ≠ xm → ∀ f, I2 f b = I1 f b) ∧ (∀ b, I2 120 b = I1 120 b) ∧ (∀ b, b ≠ w → b ≠ sv → b ≠ tx → b ≠ ag → A2 b = A1 b) ∧ (A2 w = if code = 0 then W' else W) ∧ (I2 204 xm = if code = 0 then n' else n) ∧ (A2 sv = if code = 0 then SV' else SV) ∧ (A2 tx = if code = 0 then T' else T) ∧ (I2 205 xm = if code = 0 then len' else len)
theorem ifs {α : Type} (c : Prop) [Decidable c] (a : α) : a = if c then a else a := by split <;> rfl
theorem mOpP.res {xm w sv tx ag : Nat} {W SV T : Int → Int} {n len : Int} {I1 I2 : Nat → Nat → Int} {A1 A2 : Nat → Int → Int} {code val : Int} {W' : Int → Int} {v : Option Value} (d1 : w ≠ sv) (d2 : tx ≠ w) (d3 : tx ≠ sv) (h : mOpP I1 A1 xm w sv code val W' v I2 A2) (e1 : A1 w = W) (e2 : A1 sv = SV) (e3 : A1 tx = T) (e4 : I1 204 xm = n) (e5 : I1 205 xm = len) : lRes xm w sv tx ag I1 A1 code W' (sCnt n) (sSvd SV W n) T len W n SV T len I2 A2 ∧ v = some (vi (if code = 0 then val else 0)) := by
  by_cases c : code = 0
  · obtain ⟨q1, q2, q3⟩ := h.1 c
    subst q2 q3 e1 e2 e3 e4 e5
    refine ⟨⟨by rw [c]; simp [g_up], fun b hb f => by rw [g_up_ne2 _ _ hb, g_up_ne2 _ _ hb], fun b => by rw [g_up_ne1 _ _ (by decide), g_up_ne1 _ _ (by decide)], fun b b1 b2 _ _ => by rw [g_rw_ne _ _ b1, g_rw_ne _ _ b2], ?_, ?_, ?_, ?_, ?_⟩, by rw [q1, if_pos c]⟩
    · rw [if_pos c, g_rw_at]
    · rw [if_pos c]; simp [g_up]
    · rw [if_pos c, g_rw_ne _ _ (fun e => d1 e.symm), g_rw_at]
    · rw [if_pos c, g_rw_ne _ _ d2, g_rw_ne _ _ d3]
    · rw [if_pos c]; simp [g_up]
  · obtain ⟨q1, q2, q3⟩ := h.2 c
    subst q2 q3 e1 e2 e3 e4 e5
    refine ⟨⟨by simp [g_up], fun b hb f => by rw [g_up_ne2 _ _ hb], fun b => by rw [g_up_ne1 _ _ (by decide)], fun b _ _ _ _ => rfl, ?_, ?_, ?_, ?_, ?_⟩, by rw [q1, if_neg c]⟩
    · rw [if_neg c]
    · rw [if_neg c]; simp [g_up]
    · rw [if_neg c]
    · rw [if_neg c]
    · rw [if_neg c]; simp [g_up]
theorem mRdP.res {xm w sv tx ag : Nat} {W SV T : Int → Int} {n len : Int} {I1 I2 : Nat → Nat → Int} {A1 A2 : Nat → Int → Int} {code val : Int} {v : Option Value} (h : mRdP I1 A1 xm code val v I2 A2) (e1 : A1 w = W) (e2 : A1 sv = SV) (e3 : A1 tx = T) (e4 : I1 204 xm = n) (e5 : I1 205 xm = len) : lRes xm w sv tx ag I1 A1 code W n SV T len W n SV T len I2 A2 ∧ v = some (vi (if code = 0 then val else 0)) := by
  obtain ⟨q1, q2, q3⟩ := h
  subst q2 q3 e1 e2 e3 e4 e5
  exact ⟨⟨by simp [g_up], fun b hb f => by rw [g_up_ne2 _ _ hb], fun b => by rw [g_up_ne1 _ _ (by decide)], fun b _ _ _ _ => rfl, ifs _ _, by rw [g_up_ne1 _ _ (by decide)]; exact ifs _ _, ifs _ _, ifs _ _, by rw [g_up_ne1 _ _ (by decide)]; exact ifs _ _⟩, q1⟩
theorem mRdL.res {xm w sv tx ag : Nat} {W SV T : Int → Int} {n len : Int} {I1 I2 : Nat → Nat → Int} {A1 A2 : Nat → Int → Int} {code val : Int} {v : Option Value} (h : mRdL I1 A1 xm code val v I2 A2) (e1 : A1 w = W) (e2 : A1 sv = SV) (e3 : A1 tx = T) (e4 : I1 204 xm = n) (e5 : I1 205 xm = len) : lRes xm w sv tx ag I1 A1 code W n SV T len W n SV T len I2 A2 ∧ v = some (vl (if code = 0 then val else 0)) := by
  obtain ⟨q1, q2, q3⟩ := h
  subst q2 q3 e1 e2 e3 e4 e5
  exact ⟨⟨by simp [g_up], fun b hb f => by rw [g_up_ne2 _ _ hb], fun b => by rw [g_up_ne1 _ _ (by decide)], fun b _ _ _ _ => rfl, ifs _ _, by rw [g_up_ne1 _ _ (by decide)]; exact ifs _ _, ifs _ _, ifs _ _, by rw [g_up_ne1 _ _ (by decide)]; exact ifs _ _⟩, q1⟩
theorem undo_res {xm w sv tx ag : Nat} {W SV T : Int → Int} {n len : Int} {I1 I2 : Nat → Nat → Int} {A1 A2 : Nat → Int → Int} {v : Option Value} (d1 : w ≠ sv) (d2 : tx ≠ w) (hn : 0 ≤ n) (h : (0 < I1 204 xm → v = some (vi (I1 204 xm - 1)) ∧ I2 = g_up (g_up I1 206 xm 0) 204 xm (I1 204 xm - 1) ∧ A2 = g_rw A1 w (sBack (A1 sv) (A1 w) (I1 204 xm - 1) 1618)) ∧ (I1 204 xm = 0 → v = some (vi 0) ∧ I2 = g_up I1 206 xm 1 ∧ A2 = A1)) (e1 : A1 w = W) (e2 : A1 sv = SV) (e3 : A1 tx = T) (e4 : I1 204 xm = n) (e5 : I1 205 xm = len) : lRes xm w sv tx ag I1 A1 (if n = 0 then 1 else 0) (sBack SV W (n - 1) 1618) (n - 1) SV T len W n SV T len I2 A2 ∧ v = some (vi (if (if n = 0 then (1 : Int) else 0) = 0 then n - 1 else 0)) := by
  subst e1 e2 e3 e4 e5
  by_cases c : I1 204 xm = 0
  · obtain ⟨q1, q2, q3⟩ := h.2 c
    subst q2 q3
    have k : ¬ ((if I1 204 xm = 0 then (1 : Int) else 0) = 0) := by rw [if_pos c]; decide
    refine ⟨⟨by rw [if_pos c]; simp [g_up], fun b hb f => by rw [g_up_ne2 _ _ hb], fun b => by rw [g_up_ne1 _ _ (by decide)], fun b _ _ _ _ => rfl, by rw [if_neg k], by rw [if_neg k]; simp [g_up], by rw [if_neg k], by rw [if_neg k], by rw [if_neg k]; simp [g_up]⟩, by rw [q1, if_neg k]⟩
  · obtain ⟨q1, q2, q3⟩ := h.1 (by omega)
    subst q2 q3
    have k : ((if I1 204 xm = 0 then (1 : Int) else 0) = 0) := by rw [if_neg c]
    refine ⟨⟨by rw [k]; simp [g_up], fun b hb f => by rw [g_up_ne2 _ _ hb, g_up_ne2 _ _ hb], fun b => by rw [g_up_ne1 _ _ (by decide), g_up_ne1 _ _ (by decide)], fun b b1 _ _ _ => by rw [g_rw_ne _ _ b1], by rw [if_pos k, g_rw_at], by rw [if_pos k]; simp [g_up], by rw [if_pos k, g_rw_ne _ _ (fun e => d1 e.symm)], by rw [if_pos k, g_rw_ne _ _ d2], by rw [if_pos k]; simp [g_up]⟩, by rw [q1, if_pos k]⟩
theorem append_res {xm w sv tx ag : Nat} {W SV T : Int → Int} {n len : Int} {I1 I2 : Nat → Nat → Int} {A1 A2 : Nat → Int → Int} {v : Option Value} {c : Int} (d2 : tx ≠ w) (d3 : tx ≠ sv) (h : ((32 ≤ c ∧ c ≤ 126) ∧ I1 205 xm ≠ 100 → v = some (vi (I1 205 xm + 1)) ∧ I2 = g_up (g_up I1 206 xm 0) 205 xm (I1 205 xm + 1) ∧ A2 = g_uq A1 tx (I1 205 xm) c) ∧ (¬ ((32 ≤ c ∧ c ≤ 126) ∧ I1 205 xm ≠ 100) → v = some (vi 0) ∧ I2 = g_up I1 206 xm (if ¬ (32 ≤ c ∧ c ≤ 126) then 1 else 2) ∧ A2 = A1)) (e1 : A1 w = W) (e2 : A1 sv = SV) (e3 : A1 tx = T) (e4 : I1 204 xm = n) (e5 : I1 205 xm = len) : lRes xm w sv tx ag I1 A1 (if ¬ (32 ≤ c ∧ c ≤ 126) then 1 else if len = 100 then 2 else 0) W n SV (sU T len c) (len + 1) W n SV T len I2 A2 ∧ v = some (vi (if (if ¬ (32 ≤ c ∧ c ≤ 126) then (1 : Int) else if len = 100 then 2 else 0) = 0 then len + 1 else 0)) := by
  subst e1 e2 e3 e4 e5
  by_cases p1 : 32 ≤ c ∧ c ≤ 126
  · by_cases p2 : I1 205 xm = 100
    · obtain ⟨q1, q2, q3⟩ := h.2 (fun z => z.2 p2)
      subst q2 q3
      have k1 : (if ¬ (32 ≤ c ∧ c ≤ 126) then (1 : Int) else if I1 205 xm = 100 then 2 else 0) = 2 := by rw [if_neg (fun z => z p1), if_pos p2]
      have k : ¬ ((if ¬ (32 ≤ c ∧ c ≤ 126) then (1 : Int) else if I1 205 xm = 100 then 2 else 0) = 0) := by rw [k1]; decide
      refine ⟨⟨by rw [k1, if_neg (fun z => z p1)]; simp [g_up], fun b hb f => by rw [g_up_ne2 _ _ hb], fun b => by rw [g_up_ne1 _ _ (by decide)], fun b _ _ _ _ => rfl, by rw [if_neg k], by rw [if_neg k]; simp [g_up], by rw [if_neg k], by rw [if_neg k], by rw [if_neg k]; simp [g_up]⟩, by rw [q1, if_neg k]⟩
    · obtain ⟨q1, q2, q3⟩ := h.1 ⟨p1, p2⟩
      subst q2 q3
      have k : ((if ¬ (32 ≤ c ∧ c ≤ 126) then (1 : Int) else if I1 205 xm = 100 then 2 else 0) = 0) := by rw [if_neg (fun z => z p1), if_neg p2]
      refine ⟨⟨by rw [k]; simp [g_up], fun b hb f => by rw [g_up_ne2 _ _ hb, g_up_ne2 _ _ hb], fun b => by rw [g_up_ne1 _ _ (by decide), g_up_ne1 _ _ (by decide)], fun b _ _ b3 _ => g_uq_off _ _ _ b3, by rw [if_pos k, g_uq_off _ _ _ (fun e => d2 e.symm)], by rw [if_pos k]; simp [g_up], by rw [if_pos k, g_uq_off _ _ _ (fun e => d3 e.symm)], ?_, by rw [if_pos k]; simp [g_up]⟩, by rw [q1, if_pos k]⟩
      rw [if_pos k]
      funext j
      rw [g_uq_at]
      rfl
  · obtain ⟨q1, q2, q3⟩ := h.2 (fun z => p1 z.1)
    subst q2 q3
    have k1 : (if ¬ (32 ≤ c ∧ c ≤ 126) then (1 : Int) else if I1 205 xm = 100 then 2 else 0) = 1 := by rw [if_pos p1]
    have k : ¬ ((if ¬ (32 ≤ c ∧ c ≤ 126) then (1 : Int) else if I1 205 xm = 100 then 2 else 0) = 0) := by rw [k1]; decide
    refine ⟨⟨by rw [k1, if_pos p1]; simp [g_up], fun b hb f => by rw [g_up_ne2 _ _ hb], fun b => by rw [g_up_ne1 _ _ (by decide)], fun b _ _ _ _ => rfl, by rw [if_neg k], by rw [if_neg k]; simp [g_up], by rw [if_neg k], by rw [if_neg k], by rw [if_neg k]; simp [g_up]⟩, by rw [q1, if_neg k]⟩
theorem clear_res {xm w sv tx ag : Nat} {W SV T : Int → Int} {n len : Int} {I1 I2 : Nat → Nat → Int} {A1 A2 : Nat → Int → Int} {v : Option Value} (h : v = some (vi (I1 205 xm)) ∧ I2 = g_up (g_up I1 206 xm 0) 205 xm 0 ∧ A2 = A1) (e1 : A1 w = W) (e2 : A1 sv = SV) (e3 : A1 tx = T) (e4 : I1 204 xm = n) (e5 : I1 205 xm = len) : lRes xm w sv tx ag I1 A1 0 W n SV T 0 W n SV T len I2 A2 ∧ v = some (vi len) := by
  subst e1 e2 e3 e4 e5
  obtain ⟨q1, q2, q3⟩ := h
  subst q2 q3
  exact ⟨⟨by simp [g_up], fun b hb f => by rw [g_up_ne2 _ _ hb, g_up_ne2 _ _ hb], fun b => by rw [g_up_ne1 _ _ (by decide), g_up_ne1 _ _ (by decide)], fun b _ _ _ _ => rfl, by simp, by simp [g_up], by simp, by simp, by simp [g_up]⟩, q1⟩
theorem first_res {xm w sv tx ag : Nat} {W SV T : Int → Int} {n len : Int} {I1 I2 : Nat → Nat → Int} {A1 A2 : Nat → Int → Int} {v : Option Value} {z : Int} (d4 : w ≠ ag) (d5 : sv ≠ ag) (d6 : tx ≠ ag) (h : v = some (vi z) ∧ mPf (g_up I1 206 xm 0) I2 A1 A2 xm ag) (e1 : A1 w = W) (e2 : A1 sv = SV) (e3 : A1 tx = T) (e4 : I1 204 xm = n) (e5 : I1 205 xm = len) : lRes xm w sv tx ag I1 A1 0 W n SV T len W n SV T len I2 A2 ∧ v = some (vi z) := by
  subst e1 e2 e3 e4 e5
  obtain ⟨q1, q2, q3⟩ := h
  exact ⟨⟨by rw [q2 206 xm (by omega)]; simp [g_up], fun b hb f => by rw [q2 f b (Or.inl hb), g_up_ne2 _ _ hb], fun b => by rw [q2 120 b (by omega), g_up_ne1 _ _ (by decide)], fun b _ _ _ b4 => q3 b b4, by simp [q3 w d4], by rw [q2 204 xm (by omega)]; simp [g_up], by simp [q3 sv d5], by simp [q3 tx d6], by rw [q2 205 xm (by omega)]; simp [g_up]⟩, q1⟩
theorem exec_res {xm w sv tx ag : Nat} {W SV T : Int → Int} {n len : Int} {I1 I2 : Nat → Nat → Int} {A1 A2 : Nat → Int → Int} {v : Option Value} (d1 : w ≠ sv) (d2 : tx ≠ w) (d3 : tx ≠ sv) (d4 : w ≠ ag) (d5 : sv ≠ ag) (d6 : tx ≠ ag) (h : (sErr (A1 tx) (I1 205 xm) 101 0 0 ≠ -1 → v = some (vi 0) ∧ mPf (g_up I1 206 xm 1) I2 A1 A2 xm ag) ∧ (sErr (A1 tx) (I1 205 xm) 101 0 0 = -1 → v = some (vi (sExeN (A1 tx) (I1 205 xm) 101 0 0 (A1 w))) ∧ mPe (g_up (g_up (g_up I1 206 xm 0) 204 xm (sCnt (I1 204 xm))) 205 xm 0) I2 (g_rw A1 sv (sSvd (A1 sv) (A1 w) (I1 204 xm))) A2 xm w ag ∧ A2 w = sExeW (A1 tx) (I1 205 xm) 101 0 (A1 w))) (e1 : A1 w = W) (e2 : A1 sv = SV) (e3 : A1 tx = T) (e4 : I1 204 xm = n) (e5 : I1 205 xm = len) : lRes xm w sv tx ag I1 A1 (if sErr T len 101 0 0 = -1 then 0 else 1) (sExeW T len 101 0 W) (sCnt n) (sSvd SV W n) T 0 W n SV T len I2 A2 ∧ v = some (vi (if (if sErr T len 101 0 0 = -1 then (0 : Int) else 1) = 0 then sExeN T len 101 0 0 W else 0)) := by
  subst e1 e2 e3 e4 e5
  by_cases c : sErr (A1 tx) (I1 205 xm) 101 0 0 = -1
  · obtain ⟨q1, ⟨q2, q3⟩, q4⟩ := h.2 c
    have k : (if sErr (A1 tx) (I1 205 xm) 101 0 0 = -1 then (0 : Int) else 1) = 0 := if_pos c
    refine ⟨⟨by rw [k, q2 206 xm (by omega)]; simp [g_up], fun b hb f => by rw [q2 f b (Or.inl hb), g_up_ne2 _ _ hb, g_up_ne2 _ _ hb, g_up_ne2 _ _ hb], fun b => by rw [q2 120 b (by omega), g_up_ne1 _ _ (by decide), g_up_ne1 _ _ (by decide), g_up_ne1 _ _ (by decide)], fun b b1 b2 _ b4 => by rw [q3 b b4 b1, g_rw_ne _ _ b2], by rw [if_pos k, q4], by rw [if_pos k, q2 204 xm (by omega)]; simp [g_up], by rw [if_pos k, q3 sv d5 (fun e => d1 e.symm), g_rw_at], by rw [if_pos k, q3 tx d6 d2, g_rw_ne _ _ d3], by rw [if_pos k, q2 205 xm (by omega)]; simp [g_up]⟩, by rw [q1, if_pos k]⟩
  · obtain ⟨q1, q2, q3⟩ := h.1 c
    have k1 : (if sErr (A1 tx) (I1 205 xm) 101 0 0 = -1 then (0 : Int) else 1) = 1 := if_neg c
    have k : ¬ ((if sErr (A1 tx) (I1 205 xm) 101 0 0 = -1 then (0 : Int) else 1) = 0) := by rw [k1]; decide
    refine ⟨⟨by rw [k1, q2 206 xm (by omega)]; simp [g_up], fun b hb f => by rw [q2 f b (Or.inl hb), g_up_ne2 _ _ hb], fun b => by rw [q2 120 b (by omega), g_up_ne1 _ _ (by decide)], fun b _ _ _ b4 => q3 b b4, by rw [if_neg k, q3 w d4], by rw [if_neg k, q2 204 xm (by omega)]; simp [g_up], by rw [if_neg k, q3 sv d5], by rw [if_neg k, q3 tx d6], by rw [if_neg k, q2 205 xm (by omega)]; simp [g_up]⟩, by rw [q1, if_neg k]⟩
theorem cd2 {P Q : Prop} [Decidable P] [Decidable Q] (h : ((if ¬ P then 1 else if ¬ Q then 2 else 0) : Int) = 0) : P ∧ Q := by
  by_cases p : P
  · rw [if_neg (fun z => z p)] at h
    by_cases q : Q
    · exact ⟨p, q⟩
    · rw [if_pos q] at h; cases h
  · rw [if_pos p] at h; cases h
theorem cd1 {P : Prop} [Decidable P] (h : ((if ¬ P then 1 else 0) : Int) = 0) : P := by
  by_cases p : P
  · exact p
  · rw [if_pos p] at h; cases h
theorem cd2r (P Q : Prop) [Decidable P] [Decidable Q] : 0 ≤ ((if ¬ P then 1 else if ¬ Q then 2 else 0) : Int) ∧ ((if ¬ P then 1 else if ¬ Q then 2 else 0) : Int) ≤ 2 := by
  by_cases p : P
  · rw [if_neg (fun z => z p)]
    by_cases q : Q
    · rw [if_neg (fun z => z q)]; decide
    · rw [if_pos q]; decide
  · rw [if_pos p]; decide
theorem cd2p (P Q : Prop) [Decidable P] [Decidable Q] : 0 ≤ ((if ¬ P then 1 else if Q then 2 else 0) : Int) ∧ ((if ¬ P then 1 else if Q then 2 else 0) : Int) ≤ 2 := by
  by_cases p : P
  · rw [if_neg (fun z => z p)]
    by_cases q : Q
    · rw [if_pos q]; decide
    · rw [if_neg q]; decide
  · rw [if_pos p]; decide
theorem cd1r (P : Prop) [Decidable P] : 0 ≤ ((if ¬ P then 1 else 0) : Int) ∧ ((if ¬ P then 1 else 0) : Int) ≤ 1 := by
  by_cases p : P
  · rw [if_neg (fun z => z p)]; decide
  · rw [if_pos p]; decide
theorem cd1p (P : Prop) [Decidable P] : 0 ≤ ((if P then 1 else 0) : Int) ∧ ((if P then 1 else 0) : Int) ≤ 1 := by
  by_cases p : P
  · rw [if_pos p]; decide
  · rw [if_neg p]; decide
theorem cd1q (P : Prop) [Decidable P] : 0 ≤ ((if P then 0 else 1) : Int) ∧ ((if P then 0 else 1) : Int) ≤ 1 := by
  by_cases p : P
  · rw [if_pos p]; decide
  · rw [if_neg p]; decide
def lKeep (W' : Int → Int) : Prop := iN W' ∧ iZ W' ∧ mT W'
theorem lk_setGlaze {W : Int → Int} {g a b : Int} (hN : iN W) (hz : iZ W) (hm : mT W) (hc : ((if ¬ (0 ≤ g ∧ g ≤ 3) then 1 else if ¬ ((0 ≤ a ∧ a ≤ 19) ∧ (0 ≤ b ∧ b ≤ 20)) then 2 else 0) : Int) = 0) : lKeep (sU (sU W g a) (4 + g) b) := by
  obtain ⟨p, q1, q2⟩ := cd2 hc
  exact ⟨hN.setGlaze p q1 q2, hz.of hN.2.2.2.2.1.1 (fun j u v => (sU_ne _ _ (by omega)).trans (sU_ne _ _ (by omega))) ((sU_ne _ _ (by omega)).trans (sU_ne _ _ (by omega))), (hm.put (by omega)).put (by omega)⟩
theorem lk_setQuality {W : Int → Int} {g a b : Int} (hN : iN W) (hz : iZ W) (hm : mT W) (hc : ((if ¬ (0 ≤ g ∧ g ≤ 3) then 1 else if ¬ ((0 ≤ a ∧ a ≤ 100) ∧ (0 ≤ b ∧ b ≤ 9999)) then 2 else 0) : Int) = 0) : lKeep (sU (sU W (8 + g) a) (12 + g) b) := by
  obtain ⟨p, q1, q2⟩ := cd2 hc
  exact ⟨hN.setQuality p q1 q2, hz.of hN.2.2.2.2.1.1 (fun j u v => (sU_ne _ _ (by omega)).trans (sU_ne _ _ (by omega))) ((sU_ne _ _ (by omega)).trans (sU_ne _ _ (by omega))), (hm.put (by omega)).put (by omega)⟩
theorem lk_setPosition {W : Int → Int} {k p a b : Int} (hN : iN W) (hz : iZ W) (hm : mT W) (hc : ((if ¬ ((0 ≤ k ∧ k ≤ 2) ∧ (0 ≤ p ∧ p ≤ 7)) then 1 else if ¬ ((-40 ≤ a ∧ a ≤ 40) ∧ (0 ≤ b ∧ b ≤ 100)) then 2 else 0) : Int) = 0) : lKeep (sU (sU W (16 + (8 * k + p)) a) (40 + (8 * k + p)) b) := by
  obtain ⟨⟨p1, p2⟩, q1, q2⟩ := cd2 hc
  exact ⟨hN.setPosition (by omega) q1 q2, hz.of hN.2.2.2.2.1.1 (fun j u v => (sU_ne _ _ (by omega)).trans (sU_ne _ _ (by omega))) ((sU_ne _ _ (by omega)).trans (sU_ne _ _ (by omega))), (hm.put (by omega)).put (by omega)⟩
theorem lk_setSharpness {W : Int → Int} {a : Int} (hN : iN W) (hz : iZ W) (hm : mT W) (hc : ((if ¬ (0 ≤ a ∧ a ≤ 100) then 1 else 0) : Int) = 0) : lKeep (sU W 88 a) := by
  have p := cd1 hc
  exact ⟨hN.setSharp p, hz.of hN.2.2.2.2.1.1 (fun j u v => sU_ne _ _ (by omega)) (sU_ne _ _ (by omega)), hm.put (by omega)⟩
theorem lk_setBoxSize {W : Int → Int} {a : Int} (hN : iN W) (hz : iZ W) (hm : mT W) (hc : ((if ¬ (1 ≤ a ∧ a ≤ 50) then 1 else if 0 < sSum (fun l => W (1050 + l)) (W 1614).toNat 0 ∨ 0 < sumO W then 2 else 0) : Int) = 0) : lKeep (sU W 89 a) := by
  have p : 1 ≤ a ∧ a ≤ 50 := by
    by_cases p : 1 ≤ a ∧ a ≤ 50
    · exact p
    · rw [if_pos p] at hc; cases hc
  rw [if_neg (fun z => z p)] at hc
  have q : ¬ (0 < sSum (fun l => W (1050 + l)) (W 1614).toNat 0 ∨ 0 < sumO W) := fun q => by rw [if_pos q] at hc; cases hc
  exact ⟨hN.setBox p (by omega) (by omega), hz.of hN.2.2.2.2.1.1 (fun j u v => sU_ne _ _ (by omega)) (sU_ne _ _ (by omega)), hm.put (by omega)⟩
theorem lk_fire {W : Int → Int} {a b c d : Int} (hN : iN W) (hz : iZ W) (hm : mT W) (hc : sFireT W a b c d = 0) : lKeep (sFire W a b c d) := by
  have hr := (sFireT_range W a b c d).2.2 hc
  have hf := hN.2.2.2.2.2.2.1.2.2.2.2.2.1
  exact ⟨hN.fire (by omega) (by omega) (by omega) (by omega), hz.fire hN (by omega) (by omega) (by omega) (by omega), hm.fire hN (by omega) (by omega) (by omega) (by omega)⟩
theorem lk_grade {W : Int → Int} {a : Int} (hN : iN W) (hz : iZ W) (hm : mT W) : lKeep (sGrade W a) := ⟨hN.grade hz, hz.grade hN, hm.grade hN hz⟩
theorem lk_pack {W : Int → Int} (hN : iN W) (hz : iZ W) (hm : mT W) : lKeep (sPack W) := ⟨hN.pack, hz.pack hN, hm.pack hN⟩
theorem lk_deliver {W : Int → Int} {a b c : Int} (hN : iN W) (hz : iZ W) (hm : mT W) (hc : sDeliverT W a b c = 0) : lKeep (sDel W a b c) := by
  have hr := (sDeliverT_range W a b c).2.2 hc
  have hlf := (sLotFor_range hN.2.2.2.2.1.1 a b c).resolve_left (by omega)
  have hmay : W (410 + sLotFor W a b c) = a ∧ W (730 + sLotFor W a b c) = b ∧ c ≤ W (1050 + sLotFor W a b c) := by have := hlf.2.2; simpa [sMay] using this
  have hd := hN.2.2.2.2.2.1.2.1
  have hd0 := hN.2.2.2.2.2.1.1
  obtain ⟨q1, q2, q3⟩ := sDel_pre hN ⟨hlf.1, hlf.2.1⟩ ⟨by omega, hmay.2.2⟩ (by omega) (by omega)
  unfold sDel
  exact ⟨q1.hap _ _, (q3 hz).hap q1 _ _, (q2 hm).hap q1.2.2.2.2.2.2.2 (by omega) (by omega)⟩
theorem lk_drop {W : Int → Int} {a b c d : Int} (hN : iN W) (hz : iZ W) (hm : mT W) (hc : sDropT W a b c d = 0) : lKeep (sDrop W a b c d) := by
  have hr := (sDropT_range W a b c d).2.2 hc
  have hlf := (sFind_range hN.2.2.2.2.1.1 a b c).resolve_left (by omega)
  have hp := sDrop_pre hN ⟨hlf.1, hlf.2.1⟩ ⟨hr.2.1, hr.2.2.1⟩ hr.2.2.2
  unfold sDrop
  exact ⟨hN.drop ⟨hlf.1, hlf.2.1⟩ ⟨hr.2.1, hr.2.2.1⟩ hr.2.2.2, (hp.2.2.1 hz).2, (hp.2.1 hm).2⟩
theorem lk_takeBack {W : Int → Int} {a b c : Int} (hN : iN W) (hz : iZ W) (hm : mT W) (hc : sTakeT W a b c = 0) : lKeep (sTake W a b c) := by
  have hr := (cTakeT_range W a b c).2.2 hc
  have hp := sTake_pre hN ⟨hr.1, hr.2.1⟩ ⟨hr.2.2.1, hr.2.2.2.1⟩ hr.2.2.2.2
  exact ⟨iN.brk hr.2.2.2.2.1 hp.1 rfl, hp.2.2.1 hz, (hp.2.1 hm).2⟩
theorem lk_replace {W : Int → Int} {a : Int} (hN : iN W) (hz : iZ W) (hm : mT W) (hc : sReplT W a = 0) : lKeep (sRepl W a) := by
  have hr := (cReplT_range W a).2.2 hc
  have hp := sRepl_pre hN ⟨hr.1, hr.2.1⟩ hr.2.2.1
  have h0 := (hN.2.2.2.2.2.1.2.2 a hr.1 hr.2.1).2.2.2.2.2.1
  exact ⟨iN.brk h0 hp.1 rfl, hp.2.2.1 hz, (hp.2.1 hm).2⟩
theorem lk_exe {T : Int → Int} {n : Int} (hn : 0 ≤ n ∧ n ≤ 100) : ∀ (f : Nat) (k m : Int) (W : Int → Int), 0 ≤ k → iN W → iZ W → mT W → 0 ≤ m → sErr T n f k m = -1 → lKeep (sExeW T n f k W)
  | 0, k, m, W, h0, hN, hz, hm, hm0, he => ⟨hN, hz, hm⟩
  | f + 1, k, m, W, h0, hN, hz, hm, hm0, he => by
    by_cases c : k ≤ n
    · have hk := sKind_range (sCmd T n k)
      have hk0 : sKind (sCmd T n k) = 0 := by
        by_cases z : 0 < sKind (sCmd T n k)
        · rw [sErr_bad (by omega) c z] at he; omega
        · omega
      have he2 : sErr T n f (sEnd T n k + 1) (m + 1) = -1 := by
        rw [sErr_step (by omega) c (by omega), Nat.add_sub_cancel] at he
        exact he
      by_cases z : 0 < sCode W (sCmd T n k)
      · rw [sExeW_bad (by omega) c z]
        exact ⟨hN, hz, hm⟩
      · have hS := (sCmd_inv (T := T) (n := n) (b := k) ⟨h0, c, hn.2⟩).1
        have hcr := sCode_range W (sCmd T n k)
        obtain ⟨a1, a2, a3⟩ := sApp_ok hN hk0 hS (by omega)
        have hen := sEnd_range (T := T) c
        rw [sExeW_step (by omega) c z, Nat.add_sub_cancel]
        exact lk_exe hn f (sEnd T n k + 1) (m + 1) _ (by omega) (a1 hz) (a3 hz) (a2 hm hz) (by omega) he2
    · rw [sExeW_out c]
      exact ⟨hN, hz, hm⟩
