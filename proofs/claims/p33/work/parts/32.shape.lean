def cF (j : Int) : Nat := if j < 0 then 999 else if j < 4 then 40 else if j < 8 then 41 else if j < 12 then 42 else if j < 16 then 43 else if j < 40 then 121 else if j < 64 then 122 else if j < 88 then 123 else if j < 89 then 166 else if j < 90 then 167 else if j < 170 then 100 else if j < 250 then 101 else if j < 330 then 102 else if j < 410 then 103 else if j < 570 then 80 else if j < 730 then 81 else if j < 890 then 82 else if j < 1050 then 83 else if j < 1210 then 84 else if j < 1370 then 85 else if j < 1410 then 0 else if j < 1450 then 1 else if j < 1490 then 2 else if j < 1530 then 3 else if j < 1570 then 4 else if j < 1610 then 999 else if j < 1611 then 171 else if j < 1612 then 172 else if j < 1613 then 173 else if j < 1614 then 168 else if j < 1615 then 169 else if j < 1616 then 170 else 999
def cBs (f : Nat) : Int := if f = 170 then 1615 else if f = 169 then 1614 else if f = 168 then 1613 else if f = 173 then 1612 else if f = 172 then 1611 else if f = 171 then 1610 else if f = 4 then 1530 else if f = 3 then 1490 else if f = 2 then 1450 else if f = 1 then 1410 else if f = 0 then 1370 else if f = 85 then 1210 else if f = 84 then 1050 else if f = 83 then 890 else if f = 82 then 730 else if f = 81 then 570 else if f = 80 then 410 else if f = 103 then 330 else if f = 102 then 250 else if f = 101 then 170 else if f = 100 then 90 else if f = 167 then 89 else if f = 166 then 88 else if f = 123 then 64 else if f = 122 then 40 else if f = 121 then 16 else if f = 43 then 12 else if f = 42 then 8 else if f = 41 then 4 else if f = 40 then 0 else 0
def cRk (f : Nat) : Nat := if 40 ≤ f ∧ f ≤ 43 then 160 else if 121 ≤ f ∧ f ≤ 123 then 161 else if 100 ≤ f ∧ f ≤ 103 then 162 else if 80 ≤ f ∧ f ≤ 85 then 163 else if f ≤ 4 then 164 else 0
def aArr (R : Nat → Nat → Option Nat) (s f : Nat) : Nat := (R f s).getD 0
def aRow (R : Nat → Nat → Option Nat) (Q : Nat → Int → Option Nat) (s f : Nat) (i : Int) : Nat := (Q (aArr R s f) i).getD 0
def cA (R : Nat → Nat → Option Nat) (Q : Nat → Int → Option Nat) (s : Nat) (j : Int) : Nat := if cRk (cF j) = 0 then s else aRow R Q s (cRk (cF j)) (j - cBs (cF j))
def cV (I : Nat → Nat → Int) (R : Nat → Nat → Option Nat) (Q : Nat → Int → Option Nat) (s : Nat) : Int → Int := fun j => if cF j = 999 then 0 else I (cF j) (cA R Q s j)
theorem cF_all (j : Int) (h : cF j ≠ 999) : (cRk (cF j) = 0 → j = cBs (cF j)) ∧ (cRk (cF j) = 160 → 0 ≤ j - cBs (cF j) ∧ j - cBs (cF j) < 4) ∧ (cRk (cF j) = 161 → 0 ≤ j - cBs (cF j) ∧ j - cBs (cF j) < 24) ∧ (cRk (cF j) = 162 → 0 ≤ j - cBs (cF j) ∧ j - cBs (cF j) < 80) ∧ (cRk (cF j) = 163 → 0 ≤ j - cBs (cF j) ∧ j - cBs (cF j) < 160) ∧ (cRk (cF j) = 164 → 0 ≤ j - cBs (cF j) ∧ j - cBs (cF j) < 40) ∧ (cRk (cF j) = 0 ∨ cRk (cF j) = 160 ∨ cRk (cF j) = 161 ∨ cRk (cF j) = 162 ∨ cRk (cF j) = 163 ∨ cRk (cF j) = 164) := by
  by_cases h0 : j < 0
  · exact absurd (by simp only [cF]; rw [if_pos h0]) h
  by_cases h4 : j < 4
  · have e : cF j = 40 := by simp only [cF]; rw [if_neg h0, if_pos h4]
    rw [e, show cRk 40 = 160 by decide, show cBs 40 = 0 by decide]
    omega
  by_cases h8 : j < 8
  · have e : cF j = 41 := by simp only [cF]; rw [if_neg h0, if_neg h4, if_pos h8]
    rw [e, show cRk 41 = 160 by decide, show cBs 41 = 4 by decide]
    omega
  by_cases h12 : j < 12
  · have e : cF j = 42 := by simp only [cF]; rw [if_neg h0, if_neg h4, if_neg h8, if_pos h12]
    rw [e, show cRk 42 = 160 by decide, show cBs 42 = 8 by decide]
    omega
  by_cases h16 : j < 16
  · have e : cF j = 43 := by simp only [cF]; rw [if_neg h0, if_neg h4, if_neg h8, if_neg h12, if_pos h16]
    rw [e, show cRk 43 = 160 by decide, show cBs 43 = 12 by decide]
    omega
  by_cases h40 : j < 40
  · have e : cF j = 121 := by simp only [cF]; rw [if_neg h0, if_neg h4, if_neg h8, if_neg h12, if_neg h16, if_pos h40]
    rw [e, show cRk 121 = 161 by decide, show cBs 121 = 16 by decide]
    omega
  by_cases h64 : j < 64
  · have e : cF j = 122 := by simp only [cF]; rw [if_neg h0, if_neg h4, if_neg h8, if_neg h12, if_neg h16, if_neg h40, if_pos h64]
    rw [e, show cRk 122 = 161 by decide, show cBs 122 = 40 by decide]
    omega
  by_cases h88 : j < 88
  · have e : cF j = 123 := by simp only [cF]; rw [if_neg h0, if_neg h4, if_neg h8, if_neg h12, if_neg h16, if_neg h40, if_neg h64, if_pos h88]
    rw [e, show cRk 123 = 161 by decide, show cBs 123 = 64 by decide]
    omega
  by_cases h89 : j < 89
  · have e : cF j = 166 := by simp only [cF]; rw [if_neg h0, if_neg h4, if_neg h8, if_neg h12, if_neg h16, if_neg h40, if_neg h64, if_neg h88, if_pos h89]
    rw [e, show cRk 166 = 0 by decide, show cBs 166 = 88 by decide]
    omega
  by_cases h90 : j < 90
  · have e : cF j = 167 := by simp only [cF]; rw [if_neg h0, if_neg h4, if_neg h8, if_neg h12, if_neg h16, if_neg h40, if_neg h64, if_neg h88, if_neg h89, if_pos h90]
    rw [e, show cRk 167 = 0 by decide, show cBs 167 = 89 by decide]
    omega
  by_cases h170 : j < 170
  · have e : cF j = 100 := by simp only [cF]; rw [if_neg h0, if_neg h4, if_neg h8, if_neg h12, if_neg h16, if_neg h40, if_neg h64, if_neg h88, if_neg h89, if_neg h90, if_pos h170]
    rw [e, show cRk 100 = 162 by decide, show cBs 100 = 90 by decide]
    omega
  by_cases h250 : j < 250
  · have e : cF j = 101 := by simp only [cF]; rw [if_neg h0, if_neg h4, if_neg h8, if_neg h12, if_neg h16, if_neg h40, if_neg h64, if_neg h88, if_neg h89, if_neg h90, if_neg h170, if_pos h250]
    rw [e, show cRk 101 = 162 by decide, show cBs 101 = 170 by decide]
    omega
  by_cases h330 : j < 330
  · have e : cF j = 102 := by simp only [cF]; rw [if_neg h0, if_neg h4, if_neg h8, if_neg h12, if_neg h16, if_neg h40, if_neg h64, if_neg h88, if_neg h89, if_neg h90, if_neg h170, if_neg h250, if_pos h330]
    rw [e, show cRk 102 = 162 by decide, show cBs 102 = 250 by decide]
    omega
  by_cases h410 : j < 410
  · have e : cF j = 103 := by simp only [cF]; rw [if_neg h0, if_neg h4, if_neg h8, if_neg h12, if_neg h16, if_neg h40, if_neg h64, if_neg h88, if_neg h89, if_neg h90, if_neg h170, if_neg h250, if_neg h330, if_pos h410]
    rw [e, show cRk 103 = 162 by decide, show cBs 103 = 330 by decide]
    omega
  by_cases h570 : j < 570
  · have e : cF j = 80 := by simp only [cF]; rw [if_neg h0, if_neg h4, if_neg h8, if_neg h12, if_neg h16, if_neg h40, if_neg h64, if_neg h88, if_neg h89, if_neg h90, if_neg h170, if_neg h250, if_neg h330, if_neg h410, if_pos h570]
    rw [e, show cRk 80 = 163 by decide, show cBs 80 = 410 by decide]
    omega
  by_cases h730 : j < 730
  · have e : cF j = 81 := by simp only [cF]; rw [if_neg h0, if_neg h4, if_neg h8, if_neg h12, if_neg h16, if_neg h40, if_neg h64, if_neg h88, if_neg h89, if_neg h90, if_neg h170, if_neg h250, if_neg h330, if_neg h410, if_neg h570, if_pos h730]
    rw [e, show cRk 81 = 163 by decide, show cBs 81 = 570 by decide]
    omega
  by_cases h890 : j < 890
  · have e : cF j = 82 := by simp only [cF]; rw [if_neg h0, if_neg h4, if_neg h8, if_neg h12, if_neg h16, if_neg h40, if_neg h64, if_neg h88, if_neg h89, if_neg h90, if_neg h170, if_neg h250, if_neg h330, if_neg h410, if_neg h570, if_neg h730, if_pos h890]
    rw [e, show cRk 82 = 163 by decide, show cBs 82 = 730 by decide]
    omega
  by_cases h1050 : j < 1050
  · have e : cF j = 83 := by simp only [cF]; rw [if_neg h0, if_neg h4, if_neg h8, if_neg h12, if_neg h16, if_neg h40, if_neg h64, if_neg h88, if_neg h89, if_neg h90, if_neg h170, if_neg h250, if_neg h330, if_neg h410, if_neg h570, if_neg h730, if_neg h890, if_pos h1050]
    rw [e, show cRk 83 = 163 by decide, show cBs 83 = 890 by decide]
    omega
  by_cases h1210 : j < 1210
  · have e : cF j = 84 := by simp only [cF]; rw [if_neg h0, if_neg h4, if_neg h8, if_neg h12, if_neg h16, if_neg h40, if_neg h64, if_neg h88, if_neg h89, if_neg h90, if_neg h170, if_neg h250, if_neg h330, if_neg h410, if_neg h570, if_neg h730, if_neg h890, if_neg h1050, if_pos h1210]
    rw [e, show cRk 84 = 163 by decide, show cBs 84 = 1050 by decide]
    omega
  by_cases h1370 : j < 1370
  · have e : cF j = 85 := by simp only [cF]; rw [if_neg h0, if_neg h4, if_neg h8, if_neg h12, if_neg h16, if_neg h40, if_neg h64, if_neg h88, if_neg h89, if_neg h90, if_neg h170, if_neg h250, if_neg h330, if_neg h410, if_neg h570, if_neg h730, if_neg h890, if_neg h1050, if_neg h1210, if_pos h1370]
    rw [e, show cRk 85 = 163 by decide, show cBs 85 = 1210 by decide]
    omega
  by_cases h1410 : j < 1410
  · have e : cF j = 0 := by simp only [cF]; rw [if_neg h0, if_neg h4, if_neg h8, if_neg h12, if_neg h16, if_neg h40, if_neg h64, if_neg h88, if_neg h89, if_neg h90, if_neg h170, if_neg h250, if_neg h330, if_neg h410, if_neg h570, if_neg h730, if_neg h890, if_neg h1050, if_neg h1210, if_neg h1370, if_pos h1410]
    rw [e, show cRk 0 = 164 by decide, show cBs 0 = 1370 by decide]
    omega
  by_cases h1450 : j < 1450
  · have e : cF j = 1 := by simp only [cF]; rw [if_neg h0, if_neg h4, if_neg h8, if_neg h12, if_neg h16, if_neg h40, if_neg h64, if_neg h88, if_neg h89, if_neg h90, if_neg h170, if_neg h250, if_neg h330, if_neg h410, if_neg h570, if_neg h730, if_neg h890, if_neg h1050, if_neg h1210, if_neg h1370, if_neg h1410, if_pos h1450]
    rw [e, show cRk 1 = 164 by decide, show cBs 1 = 1410 by decide]
    omega
  by_cases h1490 : j < 1490
  · have e : cF j = 2 := by simp only [cF]; rw [if_neg h0, if_neg h4, if_neg h8, if_neg h12, if_neg h16, if_neg h40, if_neg h64, if_neg h88, if_neg h89, if_neg h90, if_neg h170, if_neg h250, if_neg h330, if_neg h410, if_neg h570, if_neg h730, if_neg h890, if_neg h1050, if_neg h1210, if_neg h1370, if_neg h1410, if_neg h1450, if_pos h1490]
    rw [e, show cRk 2 = 164 by decide, show cBs 2 = 1450 by decide]
    omega
  by_cases h1530 : j < 1530
  · have e : cF j = 3 := by simp only [cF]; rw [if_neg h0, if_neg h4, if_neg h8, if_neg h12, if_neg h16, if_neg h40, if_neg h64, if_neg h88, if_neg h89, if_neg h90, if_neg h170, if_neg h250, if_neg h330, if_neg h410, if_neg h570, if_neg h730, if_neg h890, if_neg h1050, if_neg h1210, if_neg h1370, if_neg h1410, if_neg h1450, if_neg h1490, if_pos h1530]
    rw [e, show cRk 3 = 164 by decide, show cBs 3 = 1490 by decide]
    omega
  by_cases h1570 : j < 1570
  · have e : cF j = 4 := by simp only [cF]; rw [if_neg h0, if_neg h4, if_neg h8, if_neg h12, if_neg h16, if_neg h40, if_neg h64, if_neg h88, if_neg h89, if_neg h90, if_neg h170, if_neg h250, if_neg h330, if_neg h410, if_neg h570, if_neg h730, if_neg h890, if_neg h1050, if_neg h1210, if_neg h1370, if_neg h1410, if_neg h1450, if_neg h1490, if_neg h1530, if_pos h1570]
    rw [e, show cRk 4 = 164 by decide, show cBs 4 = 1530 by decide]
    omega
  by_cases h1610 : j < 1610
  · have e : cF j = 999 := by simp only [cF]; rw [if_neg h0, if_neg h4, if_neg h8, if_neg h12, if_neg h16, if_neg h40, if_neg h64, if_neg h88, if_neg h89, if_neg h90, if_neg h170, if_neg h250, if_neg h330, if_neg h410, if_neg h570, if_neg h730, if_neg h890, if_neg h1050, if_neg h1210, if_neg h1370, if_neg h1410, if_neg h1450, if_neg h1490, if_neg h1530, if_neg h1570, if_pos h1610]
    exact absurd e h
  by_cases h1611 : j < 1611
  · have e : cF j = 171 := by simp only [cF]; rw [if_neg h0, if_neg h4, if_neg h8, if_neg h12, if_neg h16, if_neg h40, if_neg h64, if_neg h88, if_neg h89, if_neg h90, if_neg h170, if_neg h250, if_neg h330, if_neg h410, if_neg h570, if_neg h730, if_neg h890, if_neg h1050, if_neg h1210, if_neg h1370, if_neg h1410, if_neg h1450, if_neg h1490, if_neg h1530, if_neg h1570, if_neg h1610, if_pos h1611]
    rw [e, show cRk 171 = 0 by decide, show cBs 171 = 1610 by decide]
    omega
  by_cases h1612 : j < 1612
  · have e : cF j = 172 := by simp only [cF]; rw [if_neg h0, if_neg h4, if_neg h8, if_neg h12, if_neg h16, if_neg h40, if_neg h64, if_neg h88, if_neg h89, if_neg h90, if_neg h170, if_neg h250, if_neg h330, if_neg h410, if_neg h570, if_neg h730, if_neg h890, if_neg h1050, if_neg h1210, if_neg h1370, if_neg h1410, if_neg h1450, if_neg h1490, if_neg h1530, if_neg h1570, if_neg h1610, if_neg h1611, if_pos h1612]
    rw [e, show cRk 172 = 0 by decide, show cBs 172 = 1611 by decide]
    omega
  by_cases h1613 : j < 1613
  · have e : cF j = 173 := by simp only [cF]; rw [if_neg h0, if_neg h4, if_neg h8, if_neg h12, if_neg h16, if_neg h40, if_neg h64, if_neg h88, if_neg h89, if_neg h90, if_neg h170, if_neg h250, if_neg h330, if_neg h410, if_neg h570, if_neg h730, if_neg h890, if_neg h1050, if_neg h1210, if_neg h1370, if_neg h1410, if_neg h1450, if_neg h1490, if_neg h1530, if_neg h1570, if_neg h1610, if_neg h1611, if_neg h1612, if_pos h1613]
    rw [e, show cRk 173 = 0 by decide, show cBs 173 = 1612 by decide]
    omega
  by_cases h1614 : j < 1614
  · have e : cF j = 168 := by simp only [cF]; rw [if_neg h0, if_neg h4, if_neg h8, if_neg h12, if_neg h16, if_neg h40, if_neg h64, if_neg h88, if_neg h89, if_neg h90, if_neg h170, if_neg h250, if_neg h330, if_neg h410, if_neg h570, if_neg h730, if_neg h890, if_neg h1050, if_neg h1210, if_neg h1370, if_neg h1410, if_neg h1450, if_neg h1490, if_neg h1530, if_neg h1570, if_neg h1610, if_neg h1611, if_neg h1612, if_neg h1613, if_pos h1614]
    rw [e, show cRk 168 = 0 by decide, show cBs 168 = 1613 by decide]
    omega
  by_cases h1615 : j < 1615
  · have e : cF j = 169 := by simp only [cF]; rw [if_neg h0, if_neg h4, if_neg h8, if_neg h12, if_neg h16, if_neg h40, if_neg h64, if_neg h88, if_neg h89, if_neg h90, if_neg h170, if_neg h250, if_neg h330, if_neg h410, if_neg h570, if_neg h730, if_neg h890, if_neg h1050, if_neg h1210, if_neg h1370, if_neg h1410, if_neg h1450, if_neg h1490, if_neg h1530, if_neg h1570, if_neg h1610, if_neg h1611, if_neg h1612, if_neg h1613, if_neg h1614, if_pos h1615]
    rw [e, show cRk 169 = 0 by decide, show cBs 169 = 1614 by decide]
    omega
  by_cases h1616 : j < 1616
  · have e : cF j = 170 := by simp only [cF]; rw [if_neg h0, if_neg h4, if_neg h8, if_neg h12, if_neg h16, if_neg h40, if_neg h64, if_neg h88, if_neg h89, if_neg h90, if_neg h170, if_neg h250, if_neg h330, if_neg h410, if_neg h570, if_neg h730, if_neg h890, if_neg h1050, if_neg h1210, if_neg h1370, if_neg h1410, if_neg h1450, if_neg h1490, if_neg h1530, if_neg h1570, if_neg h1610, if_neg h1611, if_neg h1612, if_neg h1613, if_neg h1614, if_neg h1615, if_pos h1616]
    rw [e, show cRk 170 = 0 by decide, show cBs 170 = 1615 by decide]
    omega
  exact absurd (by simp only [cF]; rw [if_neg h0, if_neg h4, if_neg h8, if_neg h12, if_neg h16, if_neg h40, if_neg h64, if_neg h88, if_neg h89, if_neg h90, if_neg h170, if_neg h250, if_neg h330, if_neg h410, if_neg h570, if_neg h730, if_neg h890, if_neg h1050, if_neg h1210, if_neg h1370, if_neg h1410, if_neg h1450, if_neg h1490, if_neg h1530, if_neg h1570, if_neg h1610, if_neg h1611, if_neg h1612, if_neg h1613, if_neg h1614, if_neg h1615, if_neg h1616]) h
theorem cf_40 {i : Int} (h : 0 ≤ i) (h2 : i < 4) : cF i = 40 ∧ ∀ (R : Nat → Nat → Option Nat) (Q : Nat → Int → Option Nat) (s : Nat), cA R Q s i = aRow R Q s 160 i := by
  have e : cF i = 40 := by simp only [cF]; rw [if_neg (by omega), if_pos (by omega)]
  refine ⟨e, fun R Q s => ?_⟩
  simp only [cA]
  rw [e, show cRk 40 = 160 by decide, show cBs 40 = 0 by decide, if_neg (by decide), show (i : Int) - 0 = i by omega]
theorem cr_40 {I : Nat → Nat → Int} {R : Nat → Nat → Option Nat} {Q : Nat → Int → Option Nat} {s : Nat} {i : Int} (h : 0 ≤ i) (h2 : i < 4) : cV I R Q s i = I 40 (aRow R Q s 160 i) := by
  obtain ⟨e, e2⟩ := cf_40 h h2
  simp only [cV]
  rw [e2, e, if_neg (by decide)]
theorem cf_41 {i : Int} (h : 0 ≤ i) (h2 : i < 4) : cF (4 + i) = 41 ∧ ∀ (R : Nat → Nat → Option Nat) (Q : Nat → Int → Option Nat) (s : Nat), cA R Q s (4 + i) = aRow R Q s 160 i := by
  have e : cF (4 + i) = 41 := by simp only [cF]; rw [if_neg (by omega), if_neg (by omega), if_pos (by omega)]
  refine ⟨e, fun R Q s => ?_⟩
  simp only [cA]
  rw [e, show cRk 41 = 160 by decide, show cBs 41 = 4 by decide, if_neg (by decide), show ((4 + i) : Int) - 4 = i by omega]
theorem cr_41 {I : Nat → Nat → Int} {R : Nat → Nat → Option Nat} {Q : Nat → Int → Option Nat} {s : Nat} {i : Int} (h : 0 ≤ i) (h2 : i < 4) : cV I R Q s (4 + i) = I 41 (aRow R Q s 160 i) := by
  obtain ⟨e, e2⟩ := cf_41 h h2
  simp only [cV]
  rw [e2, e, if_neg (by decide)]
theorem cf_42 {i : Int} (h : 0 ≤ i) (h2 : i < 4) : cF (8 + i) = 42 ∧ ∀ (R : Nat → Nat → Option Nat) (Q : Nat → Int → Option Nat) (s : Nat), cA R Q s (8 + i) = aRow R Q s 160 i := by
  have e : cF (8 + i) = 42 := by simp only [cF]; rw [if_neg (by omega), if_neg (by omega), if_neg (by omega), if_pos (by omega)]
  refine ⟨e, fun R Q s => ?_⟩
  simp only [cA]
  rw [e, show cRk 42 = 160 by decide, show cBs 42 = 8 by decide, if_neg (by decide), show ((8 + i) : Int) - 8 = i by omega]
theorem cr_42 {I : Nat → Nat → Int} {R : Nat → Nat → Option Nat} {Q : Nat → Int → Option Nat} {s : Nat} {i : Int} (h : 0 ≤ i) (h2 : i < 4) : cV I R Q s (8 + i) = I 42 (aRow R Q s 160 i) := by
  obtain ⟨e, e2⟩ := cf_42 h h2
  simp only [cV]
  rw [e2, e, if_neg (by decide)]
theorem cf_43 {i : Int} (h : 0 ≤ i) (h2 : i < 4) : cF (12 + i) = 43 ∧ ∀ (R : Nat → Nat → Option Nat) (Q : Nat → Int → Option Nat) (s : Nat), cA R Q s (12 + i) = aRow R Q s 160 i := by
  have e : cF (12 + i) = 43 := by simp only [cF]; rw [if_neg (by omega), if_neg (by omega), if_neg (by omega), if_neg (by omega), if_pos (by omega)]
  refine ⟨e, fun R Q s => ?_⟩
  simp only [cA]
  rw [e, show cRk 43 = 160 by decide, show cBs 43 = 12 by decide, if_neg (by decide), show ((12 + i) : Int) - 12 = i by omega]
theorem cr_43 {I : Nat → Nat → Int} {R : Nat → Nat → Option Nat} {Q : Nat → Int → Option Nat} {s : Nat} {i : Int} (h : 0 ≤ i) (h2 : i < 4) : cV I R Q s (12 + i) = I 43 (aRow R Q s 160 i) := by
  obtain ⟨e, e2⟩ := cf_43 h h2
  simp only [cV]
  rw [e2, e, if_neg (by decide)]
theorem cf_121 {i : Int} (h : 0 ≤ i) (h2 : i < 24) : cF (16 + i) = 121 ∧ ∀ (R : Nat → Nat → Option Nat) (Q : Nat → Int → Option Nat) (s : Nat), cA R Q s (16 + i) = aRow R Q s 161 i := by
  have e : cF (16 + i) = 121 := by simp only [cF]; rw [if_neg (by omega), if_neg (by omega), if_neg (by omega), if_neg (by omega), if_neg (by omega), if_pos (by omega)]
  refine ⟨e, fun R Q s => ?_⟩
  simp only [cA]
  rw [e, show cRk 121 = 161 by decide, show cBs 121 = 16 by decide, if_neg (by decide), show ((16 + i) : Int) - 16 = i by omega]
theorem cr_121 {I : Nat → Nat → Int} {R : Nat → Nat → Option Nat} {Q : Nat → Int → Option Nat} {s : Nat} {i : Int} (h : 0 ≤ i) (h2 : i < 24) : cV I R Q s (16 + i) = I 121 (aRow R Q s 161 i) := by
  obtain ⟨e, e2⟩ := cf_121 h h2
  simp only [cV]
  rw [e2, e, if_neg (by decide)]
theorem cf_122 {i : Int} (h : 0 ≤ i) (h2 : i < 24) : cF (40 + i) = 122 ∧ ∀ (R : Nat → Nat → Option Nat) (Q : Nat → Int → Option Nat) (s : Nat), cA R Q s (40 + i) = aRow R Q s 161 i := by
  have e : cF (40 + i) = 122 := by simp only [cF]; rw [if_neg (by omega), if_neg (by omega), if_neg (by omega), if_neg (by omega), if_neg (by omega), if_neg (by omega), if_pos (by omega)]
  refine ⟨e, fun R Q s => ?_⟩
  simp only [cA]
  rw [e, show cRk 122 = 161 by decide, show cBs 122 = 40 by decide, if_neg (by decide), show ((40 + i) : Int) - 40 = i by omega]
theorem cr_122 {I : Nat → Nat → Int} {R : Nat → Nat → Option Nat} {Q : Nat → Int → Option Nat} {s : Nat} {i : Int} (h : 0 ≤ i) (h2 : i < 24) : cV I R Q s (40 + i) = I 122 (aRow R Q s 161 i) := by
  obtain ⟨e, e2⟩ := cf_122 h h2
  simp only [cV]
  rw [e2, e, if_neg (by decide)]
theorem cf_123 {i : Int} (h : 0 ≤ i) (h2 : i < 24) : cF (64 + i) = 123 ∧ ∀ (R : Nat → Nat → Option Nat) (Q : Nat → Int → Option Nat) (s : Nat), cA R Q s (64 + i) = aRow R Q s 161 i := by
  have e : cF (64 + i) = 123 := by simp only [cF]; rw [if_neg (by omega), if_neg (by omega), if_neg (by omega), if_neg (by omega), if_neg (by omega), if_neg (by omega), if_neg (by omega), if_pos (by omega)]
  refine ⟨e, fun R Q s => ?_⟩
  simp only [cA]
  rw [e, show cRk 123 = 161 by decide, show cBs 123 = 64 by decide, if_neg (by decide), show ((64 + i) : Int) - 64 = i by omega]
theorem cr_123 {I : Nat → Nat → Int} {R : Nat → Nat → Option Nat} {Q : Nat → Int → Option Nat} {s : Nat} {i : Int} (h : 0 ≤ i) (h2 : i < 24) : cV I R Q s (64 + i) = I 123 (aRow R Q s 161 i) := by
  obtain ⟨e, e2⟩ := cf_123 h h2
  simp only [cV]
  rw [e2, e, if_neg (by decide)]
theorem cf_166 : cF 88 = 166 ∧ ∀ (R : Nat → Nat → Option Nat) (Q : Nat → Int → Option Nat) (s : Nat), cA R Q s 88 = s := by
  have e : cF 88 = 166 := by decide
  refine ⟨e, fun R Q s => ?_⟩
  simp only [cA]
  rw [e, show cRk 166 = 0 by decide, if_pos rfl]
theorem cr_166 {I : Nat → Nat → Int} {R : Nat → Nat → Option Nat} {Q : Nat → Int → Option Nat} {s : Nat} : cV I R Q s 88 = I 166 s := by
  obtain ⟨e, e2⟩ := cf_166
  simp only [cV]
  rw [e2, e, if_neg (by decide)]
theorem cf_167 : cF 89 = 167 ∧ ∀ (R : Nat → Nat → Option Nat) (Q : Nat → Int → Option Nat) (s : Nat), cA R Q s 89 = s := by
  have e : cF 89 = 167 := by decide
  refine ⟨e, fun R Q s => ?_⟩
  simp only [cA]
  rw [e, show cRk 167 = 0 by decide, if_pos rfl]
theorem cr_167 {I : Nat → Nat → Int} {R : Nat → Nat → Option Nat} {Q : Nat → Int → Option Nat} {s : Nat} : cV I R Q s 89 = I 167 s := by
  obtain ⟨e, e2⟩ := cf_167
  simp only [cV]
  rw [e2, e, if_neg (by decide)]
theorem cf_100 {i : Int} (h : 0 ≤ i) (h2 : i < 80) : cF (90 + i) = 100 ∧ ∀ (R : Nat → Nat → Option Nat) (Q : Nat → Int → Option Nat) (s : Nat), cA R Q s (90 + i) = aRow R Q s 162 i := by
  have e : cF (90 + i) = 100 := by simp only [cF]; rw [if_neg (by omega), if_neg (by omega), if_neg (by omega), if_neg (by omega), if_neg (by omega), if_neg (by omega), if_neg (by omega), if_neg (by omega), if_neg (by omega), if_neg (by omega), if_pos (by omega)]
  refine ⟨e, fun R Q s => ?_⟩
  simp only [cA]
  rw [e, show cRk 100 = 162 by decide, show cBs 100 = 90 by decide, if_neg (by decide), show ((90 + i) : Int) - 90 = i by omega]
theorem cr_100 {I : Nat → Nat → Int} {R : Nat → Nat → Option Nat} {Q : Nat → Int → Option Nat} {s : Nat} {i : Int} (h : 0 ≤ i) (h2 : i < 80) : cV I R Q s (90 + i) = I 100 (aRow R Q s 162 i) := by
  obtain ⟨e, e2⟩ := cf_100 h h2
  simp only [cV]
  rw [e2, e, if_neg (by decide)]
theorem cf_101 {i : Int} (h : 0 ≤ i) (h2 : i < 80) : cF (170 + i) = 101 ∧ ∀ (R : Nat → Nat → Option Nat) (Q : Nat → Int → Option Nat) (s : Nat), cA R Q s (170 + i) = aRow R Q s 162 i := by
  have e : cF (170 + i) = 101 := by simp only [cF]; rw [if_neg (by omega), if_neg (by omega), if_neg (by omega), if_neg (by omega), if_neg (by omega), if_neg (by omega), if_neg (by omega), if_neg (by omega), if_neg (by omega), if_neg (by omega), if_neg (by omega), if_pos (by omega)]
  refine ⟨e, fun R Q s => ?_⟩
  simp only [cA]
  rw [e, show cRk 101 = 162 by decide, show cBs 101 = 170 by decide, if_neg (by decide), show ((170 + i) : Int) - 170 = i by omega]
theorem cr_101 {I : Nat → Nat → Int} {R : Nat → Nat → Option Nat} {Q : Nat → Int → Option Nat} {s : Nat} {i : Int} (h : 0 ≤ i) (h2 : i < 80) : cV I R Q s (170 + i) = I 101 (aRow R Q s 162 i) := by
  obtain ⟨e, e2⟩ := cf_101 h h2
  simp only [cV]
  rw [e2, e, if_neg (by decide)]
theorem cf_102 {i : Int} (h : 0 ≤ i) (h2 : i < 80) : cF (250 + i) = 102 ∧ ∀ (R : Nat → Nat → Option Nat) (Q : Nat → Int → Option Nat) (s : Nat), cA R Q s (250 + i) = aRow R Q s 162 i := by
  have e : cF (250 + i) = 102 := by simp only [cF]; rw [if_neg (by omega), if_neg (by omega), if_neg (by omega), if_neg (by omega), if_neg (by omega), if_neg (by omega), if_neg (by omega), if_neg (by omega), if_neg (by omega), if_neg (by omega), if_neg (by omega), if_neg (by omega), if_pos (by omega)]
  refine ⟨e, fun R Q s => ?_⟩
  simp only [cA]
  rw [e, show cRk 102 = 162 by decide, show cBs 102 = 250 by decide, if_neg (by decide), show ((250 + i) : Int) - 250 = i by omega]
theorem cr_102 {I : Nat → Nat → Int} {R : Nat → Nat → Option Nat} {Q : Nat → Int → Option Nat} {s : Nat} {i : Int} (h : 0 ≤ i) (h2 : i < 80) : cV I R Q s (250 + i) = I 102 (aRow R Q s 162 i) := by
  obtain ⟨e, e2⟩ := cf_102 h h2
  simp only [cV]
  rw [e2, e, if_neg (by decide)]
theorem cf_103 {i : Int} (h : 0 ≤ i) (h2 : i < 80) : cF (330 + i) = 103 ∧ ∀ (R : Nat → Nat → Option Nat) (Q : Nat → Int → Option Nat) (s : Nat), cA R Q s (330 + i) = aRow R Q s 162 i := by
  have e : cF (330 + i) = 103 := by simp only [cF]; rw [if_neg (by omega), if_neg (by omega), if_neg (by omega), if_neg (by omega), if_neg (by omega), if_neg (by omega), if_neg (by omega), if_neg (by omega), if_neg (by omega), if_neg (by omega), if_neg (by omega), if_neg (by omega), if_neg (by omega), if_pos (by omega)]
  refine ⟨e, fun R Q s => ?_⟩
  simp only [cA]
  rw [e, show cRk 103 = 162 by decide, show cBs 103 = 330 by decide, if_neg (by decide), show ((330 + i) : Int) - 330 = i by omega]
theorem cr_103 {I : Nat → Nat → Int} {R : Nat → Nat → Option Nat} {Q : Nat → Int → Option Nat} {s : Nat} {i : Int} (h : 0 ≤ i) (h2 : i < 80) : cV I R Q s (330 + i) = I 103 (aRow R Q s 162 i) := by
  obtain ⟨e, e2⟩ := cf_103 h h2
  simp only [cV]
  rw [e2, e, if_neg (by decide)]
theorem cf_80 {i : Int} (h : 0 ≤ i) (h2 : i < 160) : cF (410 + i) = 80 ∧ ∀ (R : Nat → Nat → Option Nat) (Q : Nat → Int → Option Nat) (s : Nat), cA R Q s (410 + i) = aRow R Q s 163 i := by
  have e : cF (410 + i) = 80 := by simp only [cF]; rw [if_neg (by omega), if_neg (by omega), if_neg (by omega), if_neg (by omega), if_neg (by omega), if_neg (by omega), if_neg (by omega), if_neg (by omega), if_neg (by omega), if_neg (by omega), if_neg (by omega), if_neg (by omega), if_neg (by omega), if_neg (by omega), if_pos (by omega)]
  refine ⟨e, fun R Q s => ?_⟩
  simp only [cA]
  rw [e, show cRk 80 = 163 by decide, show cBs 80 = 410 by decide, if_neg (by decide), show ((410 + i) : Int) - 410 = i by omega]
theorem cr_80 {I : Nat → Nat → Int} {R : Nat → Nat → Option Nat} {Q : Nat → Int → Option Nat} {s : Nat} {i : Int} (h : 0 ≤ i) (h2 : i < 160) : cV I R Q s (410 + i) = I 80 (aRow R Q s 163 i) := by
  obtain ⟨e, e2⟩ := cf_80 h h2
  simp only [cV]
  rw [e2, e, if_neg (by decide)]
theorem cf_81 {i : Int} (h : 0 ≤ i) (h2 : i < 160) : cF (570 + i) = 81 ∧ ∀ (R : Nat → Nat → Option Nat) (Q : Nat → Int → Option Nat) (s : Nat), cA R Q s (570 + i) = aRow R Q s 163 i := by
  have e : cF (570 + i) = 81 := by simp only [cF]; rw [if_neg (by omega), if_neg (by omega), if_neg (by omega), if_neg (by omega), if_neg (by omega), if_neg (by omega), if_neg (by omega), if_neg (by omega), if_neg (by omega), if_neg (by omega), if_neg (by omega), if_neg (by omega), if_neg (by omega), if_neg (by omega), if_neg (by omega), if_pos (by omega)]
  refine ⟨e, fun R Q s => ?_⟩
  simp only [cA]
  rw [e, show cRk 81 = 163 by decide, show cBs 81 = 570 by decide, if_neg (by decide), show ((570 + i) : Int) - 570 = i by omega]
theorem cr_81 {I : Nat → Nat → Int} {R : Nat → Nat → Option Nat} {Q : Nat → Int → Option Nat} {s : Nat} {i : Int} (h : 0 ≤ i) (h2 : i < 160) : cV I R Q s (570 + i) = I 81 (aRow R Q s 163 i) := by
  obtain ⟨e, e2⟩ := cf_81 h h2
  simp only [cV]
  rw [e2, e, if_neg (by decide)]
theorem cf_82 {i : Int} (h : 0 ≤ i) (h2 : i < 160) : cF (730 + i) = 82 ∧ ∀ (R : Nat → Nat → Option Nat) (Q : Nat → Int → Option Nat) (s : Nat), cA R Q s (730 + i) = aRow R Q s 163 i := by
  have e : cF (730 + i) = 82 := by simp only [cF]; rw [if_neg (by omega), if_neg (by omega), if_neg (by omega), if_neg (by omega), if_neg (by omega), if_neg (by omega), if_neg (by omega), if_neg (by omega), if_neg (by omega), if_neg (by omega), if_neg (by omega), if_neg (by omega), if_neg (by omega), if_neg (by omega), if_neg (by omega), if_neg (by omega), if_pos (by omega)]
  refine ⟨e, fun R Q s => ?_⟩
  simp only [cA]
  rw [e, show cRk 82 = 163 by decide, show cBs 82 = 730 by decide, if_neg (by decide), show ((730 + i) : Int) - 730 = i by omega]
theorem cr_82 {I : Nat → Nat → Int} {R : Nat → Nat → Option Nat} {Q : Nat → Int → Option Nat} {s : Nat} {i : Int} (h : 0 ≤ i) (h2 : i < 160) : cV I R Q s (730 + i) = I 82 (aRow R Q s 163 i) := by
  obtain ⟨e, e2⟩ := cf_82 h h2
  simp only [cV]
  rw [e2, e, if_neg (by decide)]
theorem cf_83 {i : Int} (h : 0 ≤ i) (h2 : i < 160) : cF (890 + i) = 83 ∧ ∀ (R : Nat → Nat → Option Nat) (Q : Nat → Int → Option Nat) (s : Nat), cA R Q s (890 + i) = aRow R Q s 163 i := by
  have e : cF (890 + i) = 83 := by simp only [cF]; rw [if_neg (by omega), if_neg (by omega), if_neg (by omega), if_neg (by omega), if_neg (by omega), if_neg (by omega), if_neg (by omega), if_neg (by omega), if_neg (by omega), if_neg (by omega), if_neg (by omega), if_neg (by omega), if_neg (by omega), if_neg (by omega), if_neg (by omega), if_neg (by omega), if_neg (by omega), if_pos (by omega)]
  refine ⟨e, fun R Q s => ?_⟩
  simp only [cA]
  rw [e, show cRk 83 = 163 by decide, show cBs 83 = 890 by decide, if_neg (by decide), show ((890 + i) : Int) - 890 = i by omega]
theorem cr_83 {I : Nat → Nat → Int} {R : Nat → Nat → Option Nat} {Q : Nat → Int → Option Nat} {s : Nat} {i : Int} (h : 0 ≤ i) (h2 : i < 160) : cV I R Q s (890 + i) = I 83 (aRow R Q s 163 i) := by
  obtain ⟨e, e2⟩ := cf_83 h h2
  simp only [cV]
  rw [e2, e, if_neg (by decide)]
theorem cf_84 {i : Int} (h : 0 ≤ i) (h2 : i < 160) : cF (1050 + i) = 84 ∧ ∀ (R : Nat → Nat → Option Nat) (Q : Nat → Int → Option Nat) (s : Nat), cA R Q s (1050 + i) = aRow R Q s 163 i := by
  have e : cF (1050 + i) = 84 := by simp only [cF]; rw [if_neg (by omega), if_neg (by omega), if_neg (by omega), if_neg (by omega), if_neg (by omega), if_neg (by omega), if_neg (by omega), if_neg (by omega), if_neg (by omega), if_neg (by omega), if_neg (by omega), if_neg (by omega), if_neg (by omega), if_neg (by omega), if_neg (by omega), if_neg (by omega), if_neg (by omega), if_neg (by omega), if_pos (by omega)]
  refine ⟨e, fun R Q s => ?_⟩
  simp only [cA]
  rw [e, show cRk 84 = 163 by decide, show cBs 84 = 1050 by decide, if_neg (by decide), show ((1050 + i) : Int) - 1050 = i by omega]
theorem cr_84 {I : Nat → Nat → Int} {R : Nat → Nat → Option Nat} {Q : Nat → Int → Option Nat} {s : Nat} {i : Int} (h : 0 ≤ i) (h2 : i < 160) : cV I R Q s (1050 + i) = I 84 (aRow R Q s 163 i) := by
  obtain ⟨e, e2⟩ := cf_84 h h2
  simp only [cV]
  rw [e2, e, if_neg (by decide)]
theorem cf_85 {i : Int} (h : 0 ≤ i) (h2 : i < 160) : cF (1210 + i) = 85 ∧ ∀ (R : Nat → Nat → Option Nat) (Q : Nat → Int → Option Nat) (s : Nat), cA R Q s (1210 + i) = aRow R Q s 163 i := by
  have e : cF (1210 + i) = 85 := by simp only [cF]; rw [if_neg (by omega), if_neg (by omega), if_neg (by omega), if_neg (by omega), if_neg (by omega), if_neg (by omega), if_neg (by omega), if_neg (by omega), if_neg (by omega), if_neg (by omega), if_neg (by omega), if_neg (by omega), if_neg (by omega), if_neg (by omega), if_neg (by omega), if_neg (by omega), if_neg (by omega), if_neg (by omega), if_neg (by omega), if_pos (by omega)]
  refine ⟨e, fun R Q s => ?_⟩
  simp only [cA]
  rw [e, show cRk 85 = 163 by decide, show cBs 85 = 1210 by decide, if_neg (by decide), show ((1210 + i) : Int) - 1210 = i by omega]
theorem cr_85 {I : Nat → Nat → Int} {R : Nat → Nat → Option Nat} {Q : Nat → Int → Option Nat} {s : Nat} {i : Int} (h : 0 ≤ i) (h2 : i < 160) : cV I R Q s (1210 + i) = I 85 (aRow R Q s 163 i) := by
  obtain ⟨e, e2⟩ := cf_85 h h2
  simp only [cV]
  rw [e2, e, if_neg (by decide)]
theorem cf_0 {i : Int} (h : 0 ≤ i) (h2 : i < 40) : cF (1370 + i) = 0 ∧ ∀ (R : Nat → Nat → Option Nat) (Q : Nat → Int → Option Nat) (s : Nat), cA R Q s (1370 + i) = aRow R Q s 164 i := by
  have e : cF (1370 + i) = 0 := by simp only [cF]; rw [if_neg (by omega), if_neg (by omega), if_neg (by omega), if_neg (by omega), if_neg (by omega), if_neg (by omega), if_neg (by omega), if_neg (by omega), if_neg (by omega), if_neg (by omega), if_neg (by omega), if_neg (by omega), if_neg (by omega), if_neg (by omega), if_neg (by omega), if_neg (by omega), if_neg (by omega), if_neg (by omega), if_neg (by omega), if_neg (by omega), if_pos (by omega)]
  refine ⟨e, fun R Q s => ?_⟩
  simp only [cA]
  rw [e, show cRk 0 = 164 by decide, show cBs 0 = 1370 by decide, if_neg (by decide), show ((1370 + i) : Int) - 1370 = i by omega]
theorem cr_0 {I : Nat → Nat → Int} {R : Nat → Nat → Option Nat} {Q : Nat → Int → Option Nat} {s : Nat} {i : Int} (h : 0 ≤ i) (h2 : i < 40) : cV I R Q s (1370 + i) = I 0 (aRow R Q s 164 i) := by
  obtain ⟨e, e2⟩ := cf_0 h h2
  simp only [cV]
  rw [e2, e, if_neg (by decide)]
theorem cf_1 {i : Int} (h : 0 ≤ i) (h2 : i < 40) : cF (1410 + i) = 1 ∧ ∀ (R : Nat → Nat → Option Nat) (Q : Nat → Int → Option Nat) (s : Nat), cA R Q s (1410 + i) = aRow R Q s 164 i := by
  have e : cF (1410 + i) = 1 := by simp only [cF]; rw [if_neg (by omega), if_neg (by omega), if_neg (by omega), if_neg (by omega), if_neg (by omega), if_neg (by omega), if_neg (by omega), if_neg (by omega), if_neg (by omega), if_neg (by omega), if_neg (by omega), if_neg (by omega), if_neg (by omega), if_neg (by omega), if_neg (by omega), if_neg (by omega), if_neg (by omega), if_neg (by omega), if_neg (by omega), if_neg (by omega), if_neg (by omega), if_pos (by omega)]
  refine ⟨e, fun R Q s => ?_⟩
  simp only [cA]
  rw [e, show cRk 1 = 164 by decide, show cBs 1 = 1410 by decide, if_neg (by decide), show ((1410 + i) : Int) - 1410 = i by omega]
theorem cr_1 {I : Nat → Nat → Int} {R : Nat → Nat → Option Nat} {Q : Nat → Int → Option Nat} {s : Nat} {i : Int} (h : 0 ≤ i) (h2 : i < 40) : cV I R Q s (1410 + i) = I 1 (aRow R Q s 164 i) := by
  obtain ⟨e, e2⟩ := cf_1 h h2
  simp only [cV]
  rw [e2, e, if_neg (by decide)]
theorem cf_2 {i : Int} (h : 0 ≤ i) (h2 : i < 40) : cF (1450 + i) = 2 ∧ ∀ (R : Nat → Nat → Option Nat) (Q : Nat → Int → Option Nat) (s : Nat), cA R Q s (1450 + i) = aRow R Q s 164 i := by
  have e : cF (1450 + i) = 2 := by simp only [cF]; rw [if_neg (by omega), if_neg (by omega), if_neg (by omega), if_neg (by omega), if_neg (by omega), if_neg (by omega), if_neg (by omega), if_neg (by omega), if_neg (by omega), if_neg (by omega), if_neg (by omega), if_neg (by omega), if_neg (by omega), if_neg (by omega), if_neg (by omega), if_neg (by omega), if_neg (by omega), if_neg (by omega), if_neg (by omega), if_neg (by omega), if_neg (by omega), if_neg (by omega), if_pos (by omega)]
  refine ⟨e, fun R Q s => ?_⟩
  simp only [cA]
  rw [e, show cRk 2 = 164 by decide, show cBs 2 = 1450 by decide, if_neg (by decide), show ((1450 + i) : Int) - 1450 = i by omega]
theorem cr_2 {I : Nat → Nat → Int} {R : Nat → Nat → Option Nat} {Q : Nat → Int → Option Nat} {s : Nat} {i : Int} (h : 0 ≤ i) (h2 : i < 40) : cV I R Q s (1450 + i) = I 2 (aRow R Q s 164 i) := by
  obtain ⟨e, e2⟩ := cf_2 h h2
  simp only [cV]
  rw [e2, e, if_neg (by decide)]
theorem cf_3 {i : Int} (h : 0 ≤ i) (h2 : i < 40) : cF (1490 + i) = 3 ∧ ∀ (R : Nat → Nat → Option Nat) (Q : Nat → Int → Option Nat) (s : Nat), cA R Q s (1490 + i) = aRow R Q s 164 i := by
  have e : cF (1490 + i) = 3 := by simp only [cF]; rw [if_neg (by omega), if_neg (by omega), if_neg (by omega), if_neg (by omega), if_neg (by omega), if_neg (by omega), if_neg (by omega), if_neg (by omega), if_neg (by omega), if_neg (by omega), if_neg (by omega), if_neg (by omega), if_neg (by omega), if_neg (by omega), if_neg (by omega), if_neg (by omega), if_neg (by omega), if_neg (by omega), if_neg (by omega), if_neg (by omega), if_neg (by omega), if_neg (by omega), if_neg (by omega), if_pos (by omega)]
  refine ⟨e, fun R Q s => ?_⟩
  simp only [cA]
  rw [e, show cRk 3 = 164 by decide, show cBs 3 = 1490 by decide, if_neg (by decide), show ((1490 + i) : Int) - 1490 = i by omega]
theorem cr_3 {I : Nat → Nat → Int} {R : Nat → Nat → Option Nat} {Q : Nat → Int → Option Nat} {s : Nat} {i : Int} (h : 0 ≤ i) (h2 : i < 40) : cV I R Q s (1490 + i) = I 3 (aRow R Q s 164 i) := by
  obtain ⟨e, e2⟩ := cf_3 h h2
  simp only [cV]
  rw [e2, e, if_neg (by decide)]
theorem cf_4 {i : Int} (h : 0 ≤ i) (h2 : i < 40) : cF (1530 + i) = 4 ∧ ∀ (R : Nat → Nat → Option Nat) (Q : Nat → Int → Option Nat) (s : Nat), cA R Q s (1530 + i) = aRow R Q s 164 i := by
  have e : cF (1530 + i) = 4 := by simp only [cF]; rw [if_neg (by omega), if_neg (by omega), if_neg (by omega), if_neg (by omega), if_neg (by omega), if_neg (by omega), if_neg (by omega), if_neg (by omega), if_neg (by omega), if_neg (by omega), if_neg (by omega), if_neg (by omega), if_neg (by omega), if_neg (by omega), if_neg (by omega), if_neg (by omega), if_neg (by omega), if_neg (by omega), if_neg (by omega), if_neg (by omega), if_neg (by omega), if_neg (by omega), if_neg (by omega), if_neg (by omega), if_pos (by omega)]
  refine ⟨e, fun R Q s => ?_⟩
  simp only [cA]
  rw [e, show cRk 4 = 164 by decide, show cBs 4 = 1530 by decide, if_neg (by decide), show ((1530 + i) : Int) - 1530 = i by omega]
theorem cr_4 {I : Nat → Nat → Int} {R : Nat → Nat → Option Nat} {Q : Nat → Int → Option Nat} {s : Nat} {i : Int} (h : 0 ≤ i) (h2 : i < 40) : cV I R Q s (1530 + i) = I 4 (aRow R Q s 164 i) := by
  obtain ⟨e, e2⟩ := cf_4 h h2
  simp only [cV]
  rw [e2, e, if_neg (by decide)]
theorem cf_171 : cF 1610 = 171 ∧ ∀ (R : Nat → Nat → Option Nat) (Q : Nat → Int → Option Nat) (s : Nat), cA R Q s 1610 = s := by
  have e : cF 1610 = 171 := by decide
  refine ⟨e, fun R Q s => ?_⟩
  simp only [cA]
  rw [e, show cRk 171 = 0 by decide, if_pos rfl]
theorem cr_171 {I : Nat → Nat → Int} {R : Nat → Nat → Option Nat} {Q : Nat → Int → Option Nat} {s : Nat} : cV I R Q s 1610 = I 171 s := by
  obtain ⟨e, e2⟩ := cf_171
  simp only [cV]
  rw [e2, e, if_neg (by decide)]
theorem cf_172 : cF 1611 = 172 ∧ ∀ (R : Nat → Nat → Option Nat) (Q : Nat → Int → Option Nat) (s : Nat), cA R Q s 1611 = s := by
  have e : cF 1611 = 172 := by decide
  refine ⟨e, fun R Q s => ?_⟩
  simp only [cA]
  rw [e, show cRk 172 = 0 by decide, if_pos rfl]
theorem cr_172 {I : Nat → Nat → Int} {R : Nat → Nat → Option Nat} {Q : Nat → Int → Option Nat} {s : Nat} : cV I R Q s 1611 = I 172 s := by
  obtain ⟨e, e2⟩ := cf_172
  simp only [cV]
  rw [e2, e, if_neg (by decide)]
theorem cf_173 : cF 1612 = 173 ∧ ∀ (R : Nat → Nat → Option Nat) (Q : Nat → Int → Option Nat) (s : Nat), cA R Q s 1612 = s := by
  have e : cF 1612 = 173 := by decide
  refine ⟨e, fun R Q s => ?_⟩
  simp only [cA]
  rw [e, show cRk 173 = 0 by decide, if_pos rfl]
theorem cr_173 {I : Nat → Nat → Int} {R : Nat → Nat → Option Nat} {Q : Nat → Int → Option Nat} {s : Nat} : cV I R Q s 1612 = I 173 s := by
  obtain ⟨e, e2⟩ := cf_173
  simp only [cV]
  rw [e2, e, if_neg (by decide)]
theorem cf_168 : cF 1613 = 168 ∧ ∀ (R : Nat → Nat → Option Nat) (Q : Nat → Int → Option Nat) (s : Nat), cA R Q s 1613 = s := by
  have e : cF 1613 = 168 := by decide
  refine ⟨e, fun R Q s => ?_⟩
  simp only [cA]
  rw [e, show cRk 168 = 0 by decide, if_pos rfl]
theorem cr_168 {I : Nat → Nat → Int} {R : Nat → Nat → Option Nat} {Q : Nat → Int → Option Nat} {s : Nat} : cV I R Q s 1613 = I 168 s := by
  obtain ⟨e, e2⟩ := cf_168
  simp only [cV]
  rw [e2, e, if_neg (by decide)]
theorem cf_169 : cF 1614 = 169 ∧ ∀ (R : Nat → Nat → Option Nat) (Q : Nat → Int → Option Nat) (s : Nat), cA R Q s 1614 = s := by
  have e : cF 1614 = 169 := by decide
  refine ⟨e, fun R Q s => ?_⟩
  simp only [cA]
  rw [e, show cRk 169 = 0 by decide, if_pos rfl]
theorem cr_169 {I : Nat → Nat → Int} {R : Nat → Nat → Option Nat} {Q : Nat → Int → Option Nat} {s : Nat} : cV I R Q s 1614 = I 169 s := by
  obtain ⟨e, e2⟩ := cf_169
  simp only [cV]
  rw [e2, e, if_neg (by decide)]
theorem cf_170 : cF 1615 = 170 ∧ ∀ (R : Nat → Nat → Option Nat) (Q : Nat → Int → Option Nat) (s : Nat), cA R Q s 1615 = s := by
  have e : cF 1615 = 170 := by decide
  refine ⟨e, fun R Q s => ?_⟩
  simp only [cA]
  rw [e, show cRk 170 = 0 by decide, if_pos rfl]
theorem cr_170 {I : Nat → Nat → Int} {R : Nat → Nat → Option Nat} {Q : Nat → Int → Option Nat} {s : Nat} : cV I R Q s 1615 = I 170 s := by
  obtain ⟨e, e2⟩ := cf_170
  simp only [cV]
  rw [e2, e, if_neg (by decide)]
/-- a State's row of rows: its array, and a cell of its own at each place (G: to which State a cell belongs, and where) -/
def cRow (K N : Nat → Nat) (R : Nat → Nat → Option Nat) (Q : Nat → Int → Option Nat) (G : Nat → Nat × Int) (s f kd cl n : Nat) : Prop := R f s = some (aArr R s f) ∧ K (aArr R s f) = kd ∧ N (aArr R s f) = n ∧ G (aArr R s f) = (s, -1) ∧ ∀ i : Int, 0 ≤ i → i < n → Q (aArr R s f) i = some (aRow R Q s f i) ∧ K (aRow R Q s f i) = cl ∧ G (aRow R Q s f i) = (s, i)
def cSh (K N : Nat → Nat) (R : Nat → Nat → Option Nat) (Q : Nat → Int → Option Nat) (G : Nat → Nat × Int) (s : Nat) : Prop := K s = 9 ∧ G s = (s, 0) ∧ cRow K N R Q G s 160 16 3 4 ∧ cRow K N R Q G s 161 19 7 24 ∧ cRow K N R Q G s 162 18 6 80 ∧ cRow K N R Q G s 163 17 5 160 ∧ cRow K N R Q G s 164 15 1 40
def cEv (K N : Nat → Nat) (R : Nat → Nat → Option Nat) (G : Nat → Nat × Int) (s ev kq nq : Nat) : Prop := R 165 s = some ev ∧ K ev = 2 ∧ R 20 ev = some kq ∧ R 21 ev = some nq ∧ K kq = 13 ∧ N kq = 20 ∧ K nq = 13 ∧ N nq = 20 ∧ kq ≠ nq ∧ G ev = (s, 0) ∧ G kq = (s, 0) ∧ G nq = (s, 1)
def cSl (I : Nat → Nat → Int) (R : Nat → Nat → Option Nat) (Q : Nat → Int → Option Nat) (s : Nat) : Prop := ∀ i : Int, 0 ≤ i → i < 24 → I 120 (aRow R Q s 161 i) = (if 16 ≤ i then 5 * (i - 16 - 3) else 0)
/-- what a change inside one State leaves alone -/
def cFr (G : Nat → Nat × Int) (s : Nat) (I I' : Nat → Nat → Int) (A A' : Nat → Int → Int) : Prop := (∀ f q, (G q).1 ≠ s → I' f q = I f q) ∧ (∀ q, I' 120 q = I 120 q) ∧ (∀ q, (G q).1 ≠ s → A' q = A q)
theorem cFr.rfl {G : Nat → Nat × Int} {s : Nat} {I : Nat → Nat → Int} {A : Nat → Int → Int} : cFr G s I I A A := ⟨fun _ _ _ => Eq.refl _, fun _ => Eq.refl _, fun _ _ => Eq.refl _⟩
theorem cFr.trans {G : Nat → Nat × Int} {s : Nat} {I I1 I2 : Nat → Nat → Int} {A A1 A2 : Nat → Int → Int} (h1 : cFr G s I I1 A A1) (h2 : cFr G s I1 I2 A1 A2) : cFr G s I I2 A A2 := ⟨fun f q h => (h2.1 f q h).trans (h1.1 f q h), fun q => (h2.2.1 q).trans (h1.2.1 q), fun q h => (h2.2.2 q h).trans (h1.2.2 q h)⟩
theorem cFr.up {G : Nat → Nat × Int} {s : Nat} {I I' : Nat → Nat → Int} {A : Nat → Int → Int} {f q : Nat} {v : Int} (hq : (G q).1 = s) (hf : f ≠ 120) (h : I' = g_up I f q v) : cFr G s I I' A A := ⟨fun g b hb => by
  rw [h]
  exact g_up_ne2 _ _ (fun e => hb (by rw [e]; exact hq)), fun b => by rw [h]; exact g_up_ne1 _ _ (fun e => hf e.symm), fun _ _ => Eq.refl _⟩
theorem cFr.sl {G : Nat → Nat × Int} {s s' : Nat} {I I' : Nat → Nat → Int} {A A' : Nat → Int → Int} {R : Nat → Nat → Option Nat} {Q : Nat → Int → Option Nat} (h : cFr G s I I' A A') (hs : cSl I R Q s') : cSl I' R Q s' := fun i a b => (h.2.1 _).trans (hs i a b)
theorem cSh.cell {K N : Nat → Nat} {R : Nat → Nat → Option Nat} {Q : Nat → Int → Option Nat} {G : Nat → Nat × Int} {s : Nat} (h : cSh K N R Q G s) {j : Int} (hj : cF j ≠ 999) : G (cA R Q s j) = (s, if cRk (cF j) = 0 then 0 else j - cBs (cF j)) := by
  obtain ⟨h1, h2, a, b, c, d, e⟩ := h
  obtain ⟨q0, q1, q2, q3, q4, q5, q6⟩ := cF_all j hj
  simp only [cA]
  rcases q6 with q | q | q | q | q | q
  · rw [q, if_pos (Eq.refl _), if_pos (Eq.refl _)]; exact h2
  · obtain ⟨u, v⟩ := q1 q
    rw [q, if_neg (by decide), if_neg (by decide)]; exact (a.2.2.2.2 _ u v).2.2
  · obtain ⟨u, v⟩ := q2 q
    rw [q, if_neg (by decide), if_neg (by decide)]; exact (b.2.2.2.2 _ u v).2.2
  · obtain ⟨u, v⟩ := q3 q
    rw [q, if_neg (by decide), if_neg (by decide)]; exact (c.2.2.2.2 _ u v).2.2
  · obtain ⟨u, v⟩ := q4 q
    rw [q, if_neg (by decide), if_neg (by decide)]; exact (d.2.2.2.2 _ u v).2.2
  · obtain ⟨u, v⟩ := q5 q
    rw [q, if_neg (by decide), if_neg (by decide)]; exact (e.2.2.2.2 _ u v).2.2
theorem cSh.inj {K N : Nat → Nat} {R : Nat → Nat → Option Nat} {Q : Nat → Int → Option Nat} {G : Nat → Nat × Int} {s : Nat} (h : cSh K N R Q G s) {i j : Int} (hi : cF i ≠ 999) (hf : cF i = cF j) (hA : cA R Q s i = cA R Q s j) : i = j := by
  have e1 := h.cell hi
  have e2 := h.cell (show cF j ≠ 999 by rw [← hf]; exact hi)
  have q1 := (cF_all i hi).1
  have q2 := (cF_all j (show cF j ≠ 999 by rw [← hf]; exact hi)).1
  rw [hA, e2, ← hf] at e1
  rw [← hf] at q2
  have e3 := congrArg Prod.snd e1
  by_cases z : cRk (cF i) = 0
  · rw [q1 z, q2 z]
  · have e4 : (if cRk (cF i) = 0 then 0 else j - cBs (cF i)) = (if cRk (cF i) = 0 then 0 else i - cBs (cF i)) := e3
    rw [if_neg z, if_neg z] at e4
    omega
theorem cSh.up {K N : Nat → Nat} {R : Nat → Nat → Option Nat} {Q : Nat → Int → Option Nat} {G : Nat → Nat × Int} {s : Nat} (h : cSh K N R Q G s) {I : Nat → Nat → Int} {j v : Int} (hj : cF j ≠ 999) : cV (g_up I (cF j) (cA R Q s j) v) R Q s = sU (cV I R Q s) j v := by
  funext i
  by_cases e : i = j
  · subst e
    simp only [cV]
    rw [if_neg hj, g_up_eq, sU_eq]
  · rw [sU_ne _ _ e]
    simp only [cV]
    by_cases z : cF i = 999
    · rw [if_pos z, if_pos z]
    · rw [if_neg z, if_neg z]
      by_cases f : cF i = cF j
      · exact g_up_ne2 _ _ (fun u => e (h.inj z f u))
      · exact g_up_ne1 _ _ f
theorem cSh.fr {K N : Nat → Nat} {R : Nat → Nat → Option Nat} {Q : Nat → Int → Option Nat} {G : Nat → Nat × Int} {s s' : Nat} (h : cSh K N R Q G s') (hne : s' ≠ s) {I I' : Nat → Nat → Int} {A A' : Nat → Int → Int} (hf : cFr G s I I' A A') : cV I' R Q s' = cV I R Q s' := by
  funext i
  simp only [cV]
  by_cases z : cF i = 999
  · rw [if_pos z, if_pos z]
  · rw [if_neg z, if_neg z]
    exact hf.1 _ _ (by rw [h.cell z]; exact hne)
theorem cu_40 {K N : Nat → Nat} {R : Nat → Nat → Option Nat} {Q : Nat → Int → Option Nat} {G : Nat → Nat × Int} {s : Nat} (h : cSh K N R Q G s) {I I' : Nat → Nat → Int} {i v : Int} (h1 : 0 ≤ i) (h2 : i < 4) (e : I' = g_up I 40 (aRow R Q s 160 i) v) : cV I' R Q s = sU (cV I R Q s) i v := by
  obtain ⟨e1, e2⟩ := cf_40 h1 h2
  have := h.up (I := I) (j := i) (v := v) (by rw [e1]; decide)
  rw [e1, e2] at this
  rw [e, this]
theorem cu_41 {K N : Nat → Nat} {R : Nat → Nat → Option Nat} {Q : Nat → Int → Option Nat} {G : Nat → Nat × Int} {s : Nat} (h : cSh K N R Q G s) {I I' : Nat → Nat → Int} {i v : Int} (h1 : 0 ≤ i) (h2 : i < 4) (e : I' = g_up I 41 (aRow R Q s 160 i) v) : cV I' R Q s = sU (cV I R Q s) (4 + i) v := by
  obtain ⟨e1, e2⟩ := cf_41 h1 h2
  have := h.up (I := I) (j := (4 + i)) (v := v) (by rw [e1]; decide)
  rw [e1, e2] at this
  rw [e, this]
theorem cu_42 {K N : Nat → Nat} {R : Nat → Nat → Option Nat} {Q : Nat → Int → Option Nat} {G : Nat → Nat × Int} {s : Nat} (h : cSh K N R Q G s) {I I' : Nat → Nat → Int} {i v : Int} (h1 : 0 ≤ i) (h2 : i < 4) (e : I' = g_up I 42 (aRow R Q s 160 i) v) : cV I' R Q s = sU (cV I R Q s) (8 + i) v := by
  obtain ⟨e1, e2⟩ := cf_42 h1 h2
  have := h.up (I := I) (j := (8 + i)) (v := v) (by rw [e1]; decide)
  rw [e1, e2] at this
  rw [e, this]
theorem cu_43 {K N : Nat → Nat} {R : Nat → Nat → Option Nat} {Q : Nat → Int → Option Nat} {G : Nat → Nat × Int} {s : Nat} (h : cSh K N R Q G s) {I I' : Nat → Nat → Int} {i v : Int} (h1 : 0 ≤ i) (h2 : i < 4) (e : I' = g_up I 43 (aRow R Q s 160 i) v) : cV I' R Q s = sU (cV I R Q s) (12 + i) v := by
  obtain ⟨e1, e2⟩ := cf_43 h1 h2
  have := h.up (I := I) (j := (12 + i)) (v := v) (by rw [e1]; decide)
  rw [e1, e2] at this
  rw [e, this]
theorem cu_121 {K N : Nat → Nat} {R : Nat → Nat → Option Nat} {Q : Nat → Int → Option Nat} {G : Nat → Nat × Int} {s : Nat} (h : cSh K N R Q G s) {I I' : Nat → Nat → Int} {i v : Int} (h1 : 0 ≤ i) (h2 : i < 24) (e : I' = g_up I 121 (aRow R Q s 161 i) v) : cV I' R Q s = sU (cV I R Q s) (16 + i) v := by
  obtain ⟨e1, e2⟩ := cf_121 h1 h2
  have := h.up (I := I) (j := (16 + i)) (v := v) (by rw [e1]; decide)
  rw [e1, e2] at this
  rw [e, this]
theorem cu_122 {K N : Nat → Nat} {R : Nat → Nat → Option Nat} {Q : Nat → Int → Option Nat} {G : Nat → Nat × Int} {s : Nat} (h : cSh K N R Q G s) {I I' : Nat → Nat → Int} {i v : Int} (h1 : 0 ≤ i) (h2 : i < 24) (e : I' = g_up I 122 (aRow R Q s 161 i) v) : cV I' R Q s = sU (cV I R Q s) (40 + i) v := by
  obtain ⟨e1, e2⟩ := cf_122 h1 h2
  have := h.up (I := I) (j := (40 + i)) (v := v) (by rw [e1]; decide)
  rw [e1, e2] at this
  rw [e, this]
theorem cu_123 {K N : Nat → Nat} {R : Nat → Nat → Option Nat} {Q : Nat → Int → Option Nat} {G : Nat → Nat × Int} {s : Nat} (h : cSh K N R Q G s) {I I' : Nat → Nat → Int} {i v : Int} (h1 : 0 ≤ i) (h2 : i < 24) (e : I' = g_up I 123 (aRow R Q s 161 i) v) : cV I' R Q s = sU (cV I R Q s) (64 + i) v := by
  obtain ⟨e1, e2⟩ := cf_123 h1 h2
  have := h.up (I := I) (j := (64 + i)) (v := v) (by rw [e1]; decide)
  rw [e1, e2] at this
  rw [e, this]
theorem cu_166 {K N : Nat → Nat} {R : Nat → Nat → Option Nat} {Q : Nat → Int → Option Nat} {G : Nat → Nat × Int} {s : Nat} (h : cSh K N R Q G s) {I I' : Nat → Nat → Int} {v : Int} (e : I' = g_up I 166 s v) : cV I' R Q s = sU (cV I R Q s) 88 v := by
  obtain ⟨e1, e2⟩ := cf_166
  have := h.up (I := I) (j := 88) (v := v) (by rw [e1]; decide)
  rw [e1, e2] at this
  rw [e, this]
theorem cu_167 {K N : Nat → Nat} {R : Nat → Nat → Option Nat} {Q : Nat → Int → Option Nat} {G : Nat → Nat × Int} {s : Nat} (h : cSh K N R Q G s) {I I' : Nat → Nat → Int} {v : Int} (e : I' = g_up I 167 s v) : cV I' R Q s = sU (cV I R Q s) 89 v := by
  obtain ⟨e1, e2⟩ := cf_167
  have := h.up (I := I) (j := 89) (v := v) (by rw [e1]; decide)
  rw [e1, e2] at this
  rw [e, this]
theorem cu_100 {K N : Nat → Nat} {R : Nat → Nat → Option Nat} {Q : Nat → Int → Option Nat} {G : Nat → Nat × Int} {s : Nat} (h : cSh K N R Q G s) {I I' : Nat → Nat → Int} {i v : Int} (h1 : 0 ≤ i) (h2 : i < 80) (e : I' = g_up I 100 (aRow R Q s 162 i) v) : cV I' R Q s = sU (cV I R Q s) (90 + i) v := by
  obtain ⟨e1, e2⟩ := cf_100 h1 h2
  have := h.up (I := I) (j := (90 + i)) (v := v) (by rw [e1]; decide)
  rw [e1, e2] at this
  rw [e, this]
theorem cu_101 {K N : Nat → Nat} {R : Nat → Nat → Option Nat} {Q : Nat → Int → Option Nat} {G : Nat → Nat × Int} {s : Nat} (h : cSh K N R Q G s) {I I' : Nat → Nat → Int} {i v : Int} (h1 : 0 ≤ i) (h2 : i < 80) (e : I' = g_up I 101 (aRow R Q s 162 i) v) : cV I' R Q s = sU (cV I R Q s) (170 + i) v := by
  obtain ⟨e1, e2⟩ := cf_101 h1 h2
  have := h.up (I := I) (j := (170 + i)) (v := v) (by rw [e1]; decide)
  rw [e1, e2] at this
  rw [e, this]
theorem cu_102 {K N : Nat → Nat} {R : Nat → Nat → Option Nat} {Q : Nat → Int → Option Nat} {G : Nat → Nat × Int} {s : Nat} (h : cSh K N R Q G s) {I I' : Nat → Nat → Int} {i v : Int} (h1 : 0 ≤ i) (h2 : i < 80) (e : I' = g_up I 102 (aRow R Q s 162 i) v) : cV I' R Q s = sU (cV I R Q s) (250 + i) v := by
  obtain ⟨e1, e2⟩ := cf_102 h1 h2
  have := h.up (I := I) (j := (250 + i)) (v := v) (by rw [e1]; decide)
  rw [e1, e2] at this
  rw [e, this]
theorem cu_103 {K N : Nat → Nat} {R : Nat → Nat → Option Nat} {Q : Nat → Int → Option Nat} {G : Nat → Nat × Int} {s : Nat} (h : cSh K N R Q G s) {I I' : Nat → Nat → Int} {i v : Int} (h1 : 0 ≤ i) (h2 : i < 80) (e : I' = g_up I 103 (aRow R Q s 162 i) v) : cV I' R Q s = sU (cV I R Q s) (330 + i) v := by
  obtain ⟨e1, e2⟩ := cf_103 h1 h2
  have := h.up (I := I) (j := (330 + i)) (v := v) (by rw [e1]; decide)
  rw [e1, e2] at this
  rw [e, this]
theorem cu_80 {K N : Nat → Nat} {R : Nat → Nat → Option Nat} {Q : Nat → Int → Option Nat} {G : Nat → Nat × Int} {s : Nat} (h : cSh K N R Q G s) {I I' : Nat → Nat → Int} {i v : Int} (h1 : 0 ≤ i) (h2 : i < 160) (e : I' = g_up I 80 (aRow R Q s 163 i) v) : cV I' R Q s = sU (cV I R Q s) (410 + i) v := by
  obtain ⟨e1, e2⟩ := cf_80 h1 h2
  have := h.up (I := I) (j := (410 + i)) (v := v) (by rw [e1]; decide)
  rw [e1, e2] at this
  rw [e, this]
theorem cu_81 {K N : Nat → Nat} {R : Nat → Nat → Option Nat} {Q : Nat → Int → Option Nat} {G : Nat → Nat × Int} {s : Nat} (h : cSh K N R Q G s) {I I' : Nat → Nat → Int} {i v : Int} (h1 : 0 ≤ i) (h2 : i < 160) (e : I' = g_up I 81 (aRow R Q s 163 i) v) : cV I' R Q s = sU (cV I R Q s) (570 + i) v := by
  obtain ⟨e1, e2⟩ := cf_81 h1 h2
  have := h.up (I := I) (j := (570 + i)) (v := v) (by rw [e1]; decide)
  rw [e1, e2] at this
  rw [e, this]
theorem cu_82 {K N : Nat → Nat} {R : Nat → Nat → Option Nat} {Q : Nat → Int → Option Nat} {G : Nat → Nat × Int} {s : Nat} (h : cSh K N R Q G s) {I I' : Nat → Nat → Int} {i v : Int} (h1 : 0 ≤ i) (h2 : i < 160) (e : I' = g_up I 82 (aRow R Q s 163 i) v) : cV I' R Q s = sU (cV I R Q s) (730 + i) v := by
  obtain ⟨e1, e2⟩ := cf_82 h1 h2
  have := h.up (I := I) (j := (730 + i)) (v := v) (by rw [e1]; decide)
  rw [e1, e2] at this
  rw [e, this]
theorem cu_83 {K N : Nat → Nat} {R : Nat → Nat → Option Nat} {Q : Nat → Int → Option Nat} {G : Nat → Nat × Int} {s : Nat} (h : cSh K N R Q G s) {I I' : Nat → Nat → Int} {i v : Int} (h1 : 0 ≤ i) (h2 : i < 160) (e : I' = g_up I 83 (aRow R Q s 163 i) v) : cV I' R Q s = sU (cV I R Q s) (890 + i) v := by
  obtain ⟨e1, e2⟩ := cf_83 h1 h2
  have := h.up (I := I) (j := (890 + i)) (v := v) (by rw [e1]; decide)
  rw [e1, e2] at this
  rw [e, this]
theorem cu_84 {K N : Nat → Nat} {R : Nat → Nat → Option Nat} {Q : Nat → Int → Option Nat} {G : Nat → Nat × Int} {s : Nat} (h : cSh K N R Q G s) {I I' : Nat → Nat → Int} {i v : Int} (h1 : 0 ≤ i) (h2 : i < 160) (e : I' = g_up I 84 (aRow R Q s 163 i) v) : cV I' R Q s = sU (cV I R Q s) (1050 + i) v := by
  obtain ⟨e1, e2⟩ := cf_84 h1 h2
  have := h.up (I := I) (j := (1050 + i)) (v := v) (by rw [e1]; decide)
  rw [e1, e2] at this
  rw [e, this]
theorem cu_85 {K N : Nat → Nat} {R : Nat → Nat → Option Nat} {Q : Nat → Int → Option Nat} {G : Nat → Nat × Int} {s : Nat} (h : cSh K N R Q G s) {I I' : Nat → Nat → Int} {i v : Int} (h1 : 0 ≤ i) (h2 : i < 160) (e : I' = g_up I 85 (aRow R Q s 163 i) v) : cV I' R Q s = sU (cV I R Q s) (1210 + i) v := by
  obtain ⟨e1, e2⟩ := cf_85 h1 h2
  have := h.up (I := I) (j := (1210 + i)) (v := v) (by rw [e1]; decide)
  rw [e1, e2] at this
  rw [e, this]
theorem cu_0 {K N : Nat → Nat} {R : Nat → Nat → Option Nat} {Q : Nat → Int → Option Nat} {G : Nat → Nat × Int} {s : Nat} (h : cSh K N R Q G s) {I I' : Nat → Nat → Int} {i v : Int} (h1 : 0 ≤ i) (h2 : i < 40) (e : I' = g_up I 0 (aRow R Q s 164 i) v) : cV I' R Q s = sU (cV I R Q s) (1370 + i) v := by
  obtain ⟨e1, e2⟩ := cf_0 h1 h2
  have := h.up (I := I) (j := (1370 + i)) (v := v) (by rw [e1]; decide)
  rw [e1, e2] at this
  rw [e, this]
theorem cu_1 {K N : Nat → Nat} {R : Nat → Nat → Option Nat} {Q : Nat → Int → Option Nat} {G : Nat → Nat × Int} {s : Nat} (h : cSh K N R Q G s) {I I' : Nat → Nat → Int} {i v : Int} (h1 : 0 ≤ i) (h2 : i < 40) (e : I' = g_up I 1 (aRow R Q s 164 i) v) : cV I' R Q s = sU (cV I R Q s) (1410 + i) v := by
  obtain ⟨e1, e2⟩ := cf_1 h1 h2
  have := h.up (I := I) (j := (1410 + i)) (v := v) (by rw [e1]; decide)
  rw [e1, e2] at this
  rw [e, this]
theorem cu_2 {K N : Nat → Nat} {R : Nat → Nat → Option Nat} {Q : Nat → Int → Option Nat} {G : Nat → Nat × Int} {s : Nat} (h : cSh K N R Q G s) {I I' : Nat → Nat → Int} {i v : Int} (h1 : 0 ≤ i) (h2 : i < 40) (e : I' = g_up I 2 (aRow R Q s 164 i) v) : cV I' R Q s = sU (cV I R Q s) (1450 + i) v := by
  obtain ⟨e1, e2⟩ := cf_2 h1 h2
  have := h.up (I := I) (j := (1450 + i)) (v := v) (by rw [e1]; decide)
  rw [e1, e2] at this
  rw [e, this]
theorem cu_3 {K N : Nat → Nat} {R : Nat → Nat → Option Nat} {Q : Nat → Int → Option Nat} {G : Nat → Nat × Int} {s : Nat} (h : cSh K N R Q G s) {I I' : Nat → Nat → Int} {i v : Int} (h1 : 0 ≤ i) (h2 : i < 40) (e : I' = g_up I 3 (aRow R Q s 164 i) v) : cV I' R Q s = sU (cV I R Q s) (1490 + i) v := by
  obtain ⟨e1, e2⟩ := cf_3 h1 h2
  have := h.up (I := I) (j := (1490 + i)) (v := v) (by rw [e1]; decide)
  rw [e1, e2] at this
  rw [e, this]
theorem cu_4 {K N : Nat → Nat} {R : Nat → Nat → Option Nat} {Q : Nat → Int → Option Nat} {G : Nat → Nat × Int} {s : Nat} (h : cSh K N R Q G s) {I I' : Nat → Nat → Int} {i v : Int} (h1 : 0 ≤ i) (h2 : i < 40) (e : I' = g_up I 4 (aRow R Q s 164 i) v) : cV I' R Q s = sU (cV I R Q s) (1530 + i) v := by
  obtain ⟨e1, e2⟩ := cf_4 h1 h2
  have := h.up (I := I) (j := (1530 + i)) (v := v) (by rw [e1]; decide)
  rw [e1, e2] at this
  rw [e, this]
theorem cu_171 {K N : Nat → Nat} {R : Nat → Nat → Option Nat} {Q : Nat → Int → Option Nat} {G : Nat → Nat × Int} {s : Nat} (h : cSh K N R Q G s) {I I' : Nat → Nat → Int} {v : Int} (e : I' = g_up I 171 s v) : cV I' R Q s = sU (cV I R Q s) 1610 v := by
  obtain ⟨e1, e2⟩ := cf_171
  have := h.up (I := I) (j := 1610) (v := v) (by rw [e1]; decide)
  rw [e1, e2] at this
  rw [e, this]
theorem cu_172 {K N : Nat → Nat} {R : Nat → Nat → Option Nat} {Q : Nat → Int → Option Nat} {G : Nat → Nat × Int} {s : Nat} (h : cSh K N R Q G s) {I I' : Nat → Nat → Int} {v : Int} (e : I' = g_up I 172 s v) : cV I' R Q s = sU (cV I R Q s) 1611 v := by
  obtain ⟨e1, e2⟩ := cf_172
  have := h.up (I := I) (j := 1611) (v := v) (by rw [e1]; decide)
  rw [e1, e2] at this
  rw [e, this]
theorem cu_173 {K N : Nat → Nat} {R : Nat → Nat → Option Nat} {Q : Nat → Int → Option Nat} {G : Nat → Nat × Int} {s : Nat} (h : cSh K N R Q G s) {I I' : Nat → Nat → Int} {v : Int} (e : I' = g_up I 173 s v) : cV I' R Q s = sU (cV I R Q s) 1612 v := by
  obtain ⟨e1, e2⟩ := cf_173
  have := h.up (I := I) (j := 1612) (v := v) (by rw [e1]; decide)
  rw [e1, e2] at this
  rw [e, this]
theorem cu_168 {K N : Nat → Nat} {R : Nat → Nat → Option Nat} {Q : Nat → Int → Option Nat} {G : Nat → Nat × Int} {s : Nat} (h : cSh K N R Q G s) {I I' : Nat → Nat → Int} {v : Int} (e : I' = g_up I 168 s v) : cV I' R Q s = sU (cV I R Q s) 1613 v := by
  obtain ⟨e1, e2⟩ := cf_168
  have := h.up (I := I) (j := 1613) (v := v) (by rw [e1]; decide)
  rw [e1, e2] at this
  rw [e, this]
theorem cu_169 {K N : Nat → Nat} {R : Nat → Nat → Option Nat} {Q : Nat → Int → Option Nat} {G : Nat → Nat × Int} {s : Nat} (h : cSh K N R Q G s) {I I' : Nat → Nat → Int} {v : Int} (e : I' = g_up I 169 s v) : cV I' R Q s = sU (cV I R Q s) 1614 v := by
  obtain ⟨e1, e2⟩ := cf_169
  have := h.up (I := I) (j := 1614) (v := v) (by rw [e1]; decide)
  rw [e1, e2] at this
  rw [e, this]
theorem cu_170 {K N : Nat → Nat} {R : Nat → Nat → Option Nat} {Q : Nat → Int → Option Nat} {G : Nat → Nat × Int} {s : Nat} (h : cSh K N R Q G s) {I I' : Nat → Nat → Int} {v : Int} (e : I' = g_up I 170 s v) : cV I' R Q s = sU (cV I R Q s) 1615 v := by
  obtain ⟨e1, e2⟩ := cf_170
  have := h.up (I := I) (j := 1615) (v := v) (by rw [e1]; decide)
  rw [e1, e2] at this
  rw [e, this]
/-- the places that count, by the numbers of piles, lots and deliveries -/
def lv (p l d j : Int) : Prop := (0 ≤ j ∧ j < 90) ∨ (90 ≤ j ∧ j < 410 ∧ (j - 90) % 80 < p) ∨ (410 ≤ j ∧ j < 1370 ∧ (j - 410) % 160 < l) ∨ (1370 ≤ j ∧ j < 1570 ∧ (j - 1370) % 40 < d) ∨ (1610 ≤ j ∧ j ≤ 1615)
def agP (D : Int → Prop) (V W : Int → Int) : Prop := ∀ j, D j → V j = W j
def ag (V W : Int → Int) : Prop := agP (lv (W 1613) (W 1614) (W 1615)) V W
theorem agP.put {D : Int → Prop} {V W : Int → Int} (h : agP D V W) (j v : Int) : agP (fun k => k = j ∨ D k) (sU V j v) (sU W j v) := fun k hk => by
  simp only [sU]
  by_cases e : k = j
  · rw [if_pos e, if_pos e]
  · rw [if_neg e, if_neg e]
    exact h k (hk.resolve_left e)
theorem agP.mono {D E : Int → Prop} {V W : Int → Int} (h : agP D V W) (he : ∀ j, E j → D j) : agP E V W := fun j hj => h j (he j hj)
theorem ag.put {V W : Int → Int} (h : ag V W) {j v : Int} (hj : j < 1613 ∨ 1615 < j) : ag (sU V j v) (sU W j v) := by
  simp only [ag]
  rw [sU_ne _ _ (by omega), sU_ne _ _ (by omega), sU_ne _ _ (by omega)]
  exact (agP.put h j v).mono (fun k hk => Or.inr hk)
theorem ag.at {V W : Int → Int} (h : ag V W) {j : Int} (hj : lv (W 1613) (W 1614) (W 1615) j) : V j = W j := h j hj
theorem ar_40 {I : Nat → Nat → Int} {R : Nat → Nat → Option Nat} {Q : Nat → Int → Option Nat} {s : Nat} {W : Int → Int} (h : ag (cV I R Q s) W) {i : Int} (h1 : 0 ≤ i) (h2 : i < 4) : I 40 (aRow R Q s 160 i) = W i := by
  rw [← cr_40 (I := I) (R := R) (Q := Q) (s := s) h1 (by omega)]
  exact h.at (by unfold lv; omega)
theorem ar_41 {I : Nat → Nat → Int} {R : Nat → Nat → Option Nat} {Q : Nat → Int → Option Nat} {s : Nat} {W : Int → Int} (h : ag (cV I R Q s) W) {i : Int} (h1 : 0 ≤ i) (h2 : i < 4) : I 41 (aRow R Q s 160 i) = W (4 + i) := by
  rw [← cr_41 (I := I) (R := R) (Q := Q) (s := s) h1 (by omega)]
  exact h.at (by unfold lv; omega)
theorem ar_42 {I : Nat → Nat → Int} {R : Nat → Nat → Option Nat} {Q : Nat → Int → Option Nat} {s : Nat} {W : Int → Int} (h : ag (cV I R Q s) W) {i : Int} (h1 : 0 ≤ i) (h2 : i < 4) : I 42 (aRow R Q s 160 i) = W (8 + i) := by
  rw [← cr_42 (I := I) (R := R) (Q := Q) (s := s) h1 (by omega)]
  exact h.at (by unfold lv; omega)
theorem ar_43 {I : Nat → Nat → Int} {R : Nat → Nat → Option Nat} {Q : Nat → Int → Option Nat} {s : Nat} {W : Int → Int} (h : ag (cV I R Q s) W) {i : Int} (h1 : 0 ≤ i) (h2 : i < 4) : I 43 (aRow R Q s 160 i) = W (12 + i) := by
  rw [← cr_43 (I := I) (R := R) (Q := Q) (s := s) h1 (by omega)]
  exact h.at (by unfold lv; omega)
theorem ar_121 {I : Nat → Nat → Int} {R : Nat → Nat → Option Nat} {Q : Nat → Int → Option Nat} {s : Nat} {W : Int → Int} (h : ag (cV I R Q s) W) {i : Int} (h1 : 0 ≤ i) (h2 : i < 24) : I 121 (aRow R Q s 161 i) = W (16 + i) := by
  rw [← cr_121 (I := I) (R := R) (Q := Q) (s := s) h1 (by omega)]
  exact h.at (by unfold lv; omega)
theorem ar_122 {I : Nat → Nat → Int} {R : Nat → Nat → Option Nat} {Q : Nat → Int → Option Nat} {s : Nat} {W : Int → Int} (h : ag (cV I R Q s) W) {i : Int} (h1 : 0 ≤ i) (h2 : i < 24) : I 122 (aRow R Q s 161 i) = W (40 + i) := by
  rw [← cr_122 (I := I) (R := R) (Q := Q) (s := s) h1 (by omega)]
  exact h.at (by unfold lv; omega)
theorem ar_123 {I : Nat → Nat → Int} {R : Nat → Nat → Option Nat} {Q : Nat → Int → Option Nat} {s : Nat} {W : Int → Int} (h : ag (cV I R Q s) W) {i : Int} (h1 : 0 ≤ i) (h2 : i < 24) : I 123 (aRow R Q s 161 i) = W (64 + i) := by
  rw [← cr_123 (I := I) (R := R) (Q := Q) (s := s) h1 (by omega)]
  exact h.at (by unfold lv; omega)
theorem ar_166 {I : Nat → Nat → Int} {R : Nat → Nat → Option Nat} {Q : Nat → Int → Option Nat} {s : Nat} {W : Int → Int} (h : ag (cV I R Q s) W) : I 166 s = W 88 := by
  rw [← cr_166 (I := I) (R := R) (Q := Q) (s := s)]
  exact h.at (by unfold lv; omega)
theorem ar_167 {I : Nat → Nat → Int} {R : Nat → Nat → Option Nat} {Q : Nat → Int → Option Nat} {s : Nat} {W : Int → Int} (h : ag (cV I R Q s) W) : I 167 s = W 89 := by
  rw [← cr_167 (I := I) (R := R) (Q := Q) (s := s)]
  exact h.at (by unfold lv; omega)
theorem ar_100 {I : Nat → Nat → Int} {R : Nat → Nat → Option Nat} {Q : Nat → Int → Option Nat} {s : Nat} {W : Int → Int} (h : ag (cV I R Q s) W) {i : Int} (h1 : 0 ≤ i) (h2 : i < W 1613) (h3 : W 1613 ≤ 80) : I 100 (aRow R Q s 162 i) = W (90 + i) := by
  rw [← cr_100 (I := I) (R := R) (Q := Q) (s := s) h1 (by omega)]
  exact h.at (by unfold lv; omega)
theorem ar_101 {I : Nat → Nat → Int} {R : Nat → Nat → Option Nat} {Q : Nat → Int → Option Nat} {s : Nat} {W : Int → Int} (h : ag (cV I R Q s) W) {i : Int} (h1 : 0 ≤ i) (h2 : i < W 1613) (h3 : W 1613 ≤ 80) : I 101 (aRow R Q s 162 i) = W (170 + i) := by
  rw [← cr_101 (I := I) (R := R) (Q := Q) (s := s) h1 (by omega)]
  exact h.at (by unfold lv; omega)
theorem ar_102 {I : Nat → Nat → Int} {R : Nat → Nat → Option Nat} {Q : Nat → Int → Option Nat} {s : Nat} {W : Int → Int} (h : ag (cV I R Q s) W) {i : Int} (h1 : 0 ≤ i) (h2 : i < W 1613) (h3 : W 1613 ≤ 80) : I 102 (aRow R Q s 162 i) = W (250 + i) := by
  rw [← cr_102 (I := I) (R := R) (Q := Q) (s := s) h1 (by omega)]
  exact h.at (by unfold lv; omega)
theorem ar_103 {I : Nat → Nat → Int} {R : Nat → Nat → Option Nat} {Q : Nat → Int → Option Nat} {s : Nat} {W : Int → Int} (h : ag (cV I R Q s) W) {i : Int} (h1 : 0 ≤ i) (h2 : i < W 1613) (h3 : W 1613 ≤ 80) : I 103 (aRow R Q s 162 i) = W (330 + i) := by
  rw [← cr_103 (I := I) (R := R) (Q := Q) (s := s) h1 (by omega)]
  exact h.at (by unfold lv; omega)
theorem ar_80 {I : Nat → Nat → Int} {R : Nat → Nat → Option Nat} {Q : Nat → Int → Option Nat} {s : Nat} {W : Int → Int} (h : ag (cV I R Q s) W) {i : Int} (h1 : 0 ≤ i) (h2 : i < W 1614) (h3 : W 1614 ≤ 160) : I 80 (aRow R Q s 163 i) = W (410 + i) := by
  rw [← cr_80 (I := I) (R := R) (Q := Q) (s := s) h1 (by omega)]
  exact h.at (by unfold lv; omega)
theorem ar_81 {I : Nat → Nat → Int} {R : Nat → Nat → Option Nat} {Q : Nat → Int → Option Nat} {s : Nat} {W : Int → Int} (h : ag (cV I R Q s) W) {i : Int} (h1 : 0 ≤ i) (h2 : i < W 1614) (h3 : W 1614 ≤ 160) : I 81 (aRow R Q s 163 i) = W (570 + i) := by
  rw [← cr_81 (I := I) (R := R) (Q := Q) (s := s) h1 (by omega)]
  exact h.at (by unfold lv; omega)
theorem ar_82 {I : Nat → Nat → Int} {R : Nat → Nat → Option Nat} {Q : Nat → Int → Option Nat} {s : Nat} {W : Int → Int} (h : ag (cV I R Q s) W) {i : Int} (h1 : 0 ≤ i) (h2 : i < W 1614) (h3 : W 1614 ≤ 160) : I 82 (aRow R Q s 163 i) = W (730 + i) := by
  rw [← cr_82 (I := I) (R := R) (Q := Q) (s := s) h1 (by omega)]
  exact h.at (by unfold lv; omega)
theorem ar_83 {I : Nat → Nat → Int} {R : Nat → Nat → Option Nat} {Q : Nat → Int → Option Nat} {s : Nat} {W : Int → Int} (h : ag (cV I R Q s) W) {i : Int} (h1 : 0 ≤ i) (h2 : i < W 1614) (h3 : W 1614 ≤ 160) : I 83 (aRow R Q s 163 i) = W (890 + i) := by
  rw [← cr_83 (I := I) (R := R) (Q := Q) (s := s) h1 (by omega)]
  exact h.at (by unfold lv; omega)
theorem ar_84 {I : Nat → Nat → Int} {R : Nat → Nat → Option Nat} {Q : Nat → Int → Option Nat} {s : Nat} {W : Int → Int} (h : ag (cV I R Q s) W) {i : Int} (h1 : 0 ≤ i) (h2 : i < W 1614) (h3 : W 1614 ≤ 160) : I 84 (aRow R Q s 163 i) = W (1050 + i) := by
  rw [← cr_84 (I := I) (R := R) (Q := Q) (s := s) h1 (by omega)]
  exact h.at (by unfold lv; omega)
theorem ar_85 {I : Nat → Nat → Int} {R : Nat → Nat → Option Nat} {Q : Nat → Int → Option Nat} {s : Nat} {W : Int → Int} (h : ag (cV I R Q s) W) {i : Int} (h1 : 0 ≤ i) (h2 : i < W 1614) (h3 : W 1614 ≤ 160) : I 85 (aRow R Q s 163 i) = W (1210 + i) := by
  rw [← cr_85 (I := I) (R := R) (Q := Q) (s := s) h1 (by omega)]
  exact h.at (by unfold lv; omega)
theorem ar_0 {I : Nat → Nat → Int} {R : Nat → Nat → Option Nat} {Q : Nat → Int → Option Nat} {s : Nat} {W : Int → Int} (h : ag (cV I R Q s) W) {i : Int} (h1 : 0 ≤ i) (h2 : i < W 1615) (h3 : W 1615 ≤ 40) : I 0 (aRow R Q s 164 i) = W (1370 + i) := by
  rw [← cr_0 (I := I) (R := R) (Q := Q) (s := s) h1 (by omega)]
  exact h.at (by unfold lv; omega)
theorem ar_1 {I : Nat → Nat → Int} {R : Nat → Nat → Option Nat} {Q : Nat → Int → Option Nat} {s : Nat} {W : Int → Int} (h : ag (cV I R Q s) W) {i : Int} (h1 : 0 ≤ i) (h2 : i < W 1615) (h3 : W 1615 ≤ 40) : I 1 (aRow R Q s 164 i) = W (1410 + i) := by
  rw [← cr_1 (I := I) (R := R) (Q := Q) (s := s) h1 (by omega)]
  exact h.at (by unfold lv; omega)
theorem ar_2 {I : Nat → Nat → Int} {R : Nat → Nat → Option Nat} {Q : Nat → Int → Option Nat} {s : Nat} {W : Int → Int} (h : ag (cV I R Q s) W) {i : Int} (h1 : 0 ≤ i) (h2 : i < W 1615) (h3 : W 1615 ≤ 40) : I 2 (aRow R Q s 164 i) = W (1450 + i) := by
  rw [← cr_2 (I := I) (R := R) (Q := Q) (s := s) h1 (by omega)]
  exact h.at (by unfold lv; omega)
theorem ar_3 {I : Nat → Nat → Int} {R : Nat → Nat → Option Nat} {Q : Nat → Int → Option Nat} {s : Nat} {W : Int → Int} (h : ag (cV I R Q s) W) {i : Int} (h1 : 0 ≤ i) (h2 : i < W 1615) (h3 : W 1615 ≤ 40) : I 3 (aRow R Q s 164 i) = W (1490 + i) := by
  rw [← cr_3 (I := I) (R := R) (Q := Q) (s := s) h1 (by omega)]
  exact h.at (by unfold lv; omega)
theorem ar_4 {I : Nat → Nat → Int} {R : Nat → Nat → Option Nat} {Q : Nat → Int → Option Nat} {s : Nat} {W : Int → Int} (h : ag (cV I R Q s) W) {i : Int} (h1 : 0 ≤ i) (h2 : i < W 1615) (h3 : W 1615 ≤ 40) : I 4 (aRow R Q s 164 i) = W (1530 + i) := by
  rw [← cr_4 (I := I) (R := R) (Q := Q) (s := s) h1 (by omega)]
  exact h.at (by unfold lv; omega)
theorem ar_171 {I : Nat → Nat → Int} {R : Nat → Nat → Option Nat} {Q : Nat → Int → Option Nat} {s : Nat} {W : Int → Int} (h : ag (cV I R Q s) W) : I 171 s = W 1610 := by
  rw [← cr_171 (I := I) (R := R) (Q := Q) (s := s)]
  exact h.at (by unfold lv; omega)
theorem ar_172 {I : Nat → Nat → Int} {R : Nat → Nat → Option Nat} {Q : Nat → Int → Option Nat} {s : Nat} {W : Int → Int} (h : ag (cV I R Q s) W) : I 172 s = W 1611 := by
  rw [← cr_172 (I := I) (R := R) (Q := Q) (s := s)]
  exact h.at (by unfold lv; omega)
theorem ar_173 {I : Nat → Nat → Int} {R : Nat → Nat → Option Nat} {Q : Nat → Int → Option Nat} {s : Nat} {W : Int → Int} (h : ag (cV I R Q s) W) : I 173 s = W 1612 := by
  rw [← cr_173 (I := I) (R := R) (Q := Q) (s := s)]
  exact h.at (by unfold lv; omega)
theorem ar_168 {I : Nat → Nat → Int} {R : Nat → Nat → Option Nat} {Q : Nat → Int → Option Nat} {s : Nat} {W : Int → Int} (h : ag (cV I R Q s) W) : I 168 s = W 1613 := by
  rw [← cr_168 (I := I) (R := R) (Q := Q) (s := s)]
  exact h.at (by unfold lv; omega)
theorem ar_169 {I : Nat → Nat → Int} {R : Nat → Nat → Option Nat} {Q : Nat → Int → Option Nat} {s : Nat} {W : Int → Int} (h : ag (cV I R Q s) W) : I 169 s = W 1614 := by
  rw [← cr_169 (I := I) (R := R) (Q := Q) (s := s)]
  exact h.at (by unfold lv; omega)
theorem ar_170 {I : Nat → Nat → Int} {R : Nat → Nat → Option Nat} {Q : Nat → Int → Option Nat} {s : Nat} {W : Int → Int} (h : ag (cV I R Q s) W) : I 170 s = W 1615 := by
  rw [← cr_170 (I := I) (R := R) (Q := Q) (s := s)]
  exact h.at (by unfold lv; omega)
