/-- how long an umbrella lasts: at past, with so many looks left -/
def zhb (r g : Nat) : Nat → Nat → Nat → Option Nat
  | 0, w, p => if 32 ≤ w then some p else none
  | k + 1, w, p => if 32 ≤ w then some p else zhb r g k (zwo w r g) (p + 1)
theorem zHb {w r g : Nat} (hr : r ≤ 9) (hg : g ≤ 3) : ∀ k w p F, w ≤ 64 → p + k = 100 → k + 3 < F → f_X0_hoursToBreak_L20 (nI r) (nI g) F (nI w) (nI p) = some (zev (-9) (zhb r g k w p)) := by
  intro k
  induction k with
  | zero =>
    intro w p F hw hp hF
    obtain ⟨F, rfl⟩ : ∃ G, F = G + 1 + 1 := ⟨F - 2, by omega⟩
    have hp' : p = 100 := by omega
    subst hp'
    have e2 : f_X0_hoursToBreak_L20 (nI r) (nI g) (F + 1) (nI (zwo w r g)) (nI 101) = some (-9) := by
      rw [f_X0_hoursToBreak_L20, if_pos (by decide)]
    rw [f_X0_hoursToBreak_L20, zWorn hw hr hg, show nI 100 + 1 = nI 101 from rfl, e2]
    unfold zhb
    simp (disch := omega) only [zpl1, zpl2, zpl3, zob1, zob2, zob3, zlt, zeq, znn, zn9, zat, zput, zaddc, zag, zas, zl2, zl3, zl4, zl5, zl7, zl8, zl10, zl11, zl12, zl16, zl20, zl22, zl23, zl31, zl32, zl60, zl64, zl80, zl100, zl121, zl181, zl241, zl249, zl261, zl273, zl285, zl297, zl309, zl321, zl322, zl323, zl324, zl325, zl326, zl327, zl500, zl61, zl328, zl329, zl657, zl986, nI_1, z1I, zadd, if_true, if_false, Nat.lt_irrefl]
    by_cases h : w < 32
    · rw [if_pos h, if_neg (by omega)]; rfl
    · rw [if_neg h, if_pos (by omega)]; rfl
  | succ k ih =>
    intro w p F hw hp hF
    obtain ⟨F, rfl⟩ : ∃ G, F = G + 1 := ⟨F - 1, by omega⟩
    rw [f_X0_hoursToBreak_L20, zWorn hw hr hg]
    have e : ¬ 100 < p := by omega
    simp (disch := omega) only [zpl1, zpl2, zpl3, zob1, zob2, zob3, zlt, zeq, znn, zn9, zat, zput, zaddc, zag, zas, zl2, zl3, zl4, zl5, zl7, zl8, zl10, zl11, zl12, zl16, zl20, zl22, zl23, zl31, zl32, zl60, zl64, zl80, zl100, zl121, zl181, zl241, zl249, zl261, zl273, zl285, zl297, zl309, zl321, zl322, zl323, zl324, zl325, zl326, zl327, zl500, zl61, zl328, zl329, zl657, zl986, nI_1, z1I, zadd, if_true, if_false, e]
    unfold zhb
    by_cases h : w < 32
    · rw [if_pos h, if_neg (by omega)]; exact ih _ _ F (zwo_le _ _ _) (by omega) (by omega)
    · rw [if_neg h, if_pos (by omega)]; rfl
theorem zHbM {w r g : Nat} (hr : r ≤ 9) (hg : g ≤ 3) : ∀ k w p F, w ≤ 64 → p + k = 100 → k + 3 < F → ∃ w' p', f_X7_breaksIn_L63 (nI r) (nI g) F (nI w) (nI p) = some (nI w', nI p') ∧ w' ≤ 64 ∧ p' ≤ 100 ∧ zhb r g k w p = if w' < 32 then none else some p' := by
  intro k
  induction k with
  | zero =>
    intro w p F hw hp hF
    obtain ⟨F, rfl⟩ : ∃ G, F = G + 1 := ⟨F - 1, by omega⟩
    have hp' : p = 100 := by omega
    subst hp'
    refine ⟨w, 100, ?_, hw, by omega, ?_⟩
    · rw [f_X7_breaksIn_L63, if_neg (by decide)]
    · unfold zhb
      by_cases h : w < 32
      · rw [if_pos h, if_neg (by omega)]
      · rw [if_neg h, if_pos (by omega)]
  | succ k ih =>
    intro w p F hw hp hF
    obtain ⟨F, rfl⟩ : ∃ G, F = G + 1 := ⟨F - 1, by omega⟩
    rw [f_X7_breaksIn_L63, zWornM hw hr hg]
    have e : p < 100 := by omega
    simp (disch := omega) only [zpl1, zpl2, zpl3, zob1, zob2, zob3, zlt, zeq, znn, zn9, zat, zput, zaddc, zag, zas, zl2, zl3, zl4, zl5, zl7, zl8, zl10, zl11, zl12, zl16, zl20, zl22, zl23, zl31, zl32, zl60, zl64, zl80, zl100, zl121, zl181, zl241, zl249, zl261, zl273, zl285, zl297, zl309, zl321, zl322, zl323, zl324, zl325, zl326, zl327, zl500, zl61, zl328, zl329, zl657, zl986, nI_1, z1I, zadd, if_true, if_false, e]
    unfold zhb
    by_cases h : w < 32
    · rw [if_pos h, if_neg (by omega)]; exact ih _ _ F (zwo_le _ _ _) (by omega) (by omega)
    · rw [if_neg h, if_pos (by omega)]
      refine ⟨w, p, rfl, hw, by omega, ?_⟩
      rw [if_neg h]
theorem zz_breaksIn {Z : Nat} {c : CV} {q : Nat → Int32} (hZ : 5000 < Z) (a : zRT c q) (p1 p2 p3 : Int32) : zAg (f_X6_breaksIn Z c p1 p2 p3) (f_X7_breaksIn Z q p1 p2 p3) := by
  obtain ⟨n, S, W, H, T, C, P, O, h, r, hh, aC, aM, aL, aP, aG⟩ := a
  unfold f_X6_breaksIn f_X7_breaksIn f_X7_isPerson
  rcases zr11 p1 with ⟨k, hk, rfl, e1, e2⟩ | ⟨e1, e2⟩
  · rcases zr9 p2 with ⟨rn, hrn, rfl, f1, f2⟩ | ⟨f1, f2⟩
    · rcases zr3 p3 with ⟨gs, hgs, rfl, g1, g2⟩ | ⟨g1, g2⟩
      · rw [e1, e2, f1, f2, g1, g2]
        simp only [z10, if_true, if_false]
        have hk' : k < 12 := by omega
        have a1 := aP.2.1 k hk'
        rw [zHas aC aP hk']
        simp (disch := omega) only [zpl1, zpl2, zpl3, zob1, zob2, zob3, zlt, zeq, znn, zn9, zat, zput, zaddc, zag, zas, zl2, zl3, zl4, zl5, zl7, zl8, zl10, zl11, zl12, zl16, zl20, zl22, zl23, zl31, zl32, zl60, zl64, zl80, zl100, zl121, zl181, zl241, zl249, zl261, zl273, zl285, zl297, zl309, zl321, zl322, zl323, zl324, zl325, zl326, zl327, zl500, zl61, zl328, zl329, zl657, zl986, nI_1, z1I, zadd, if_true, if_false, a1]
        cases hH : H k with
        | none => exact zAg.rf
        | some u =>
          have hu := (aP.1 k hk' u).1 hH
          have := aC.1
          have hw := aC.2.2.2.1 u
          unfold f_X0_hoursToBreak
          rw [zHand aC aP (by omega) hk', hH]
          simp only [reduceCtorEq, if_false, zev, z10]
          obtain ⟨w', p', h1, h2, h3, h4⟩ := zHbM (w := 0) hrn hgs 100 (W u) 0 Z hw (by omega) (by omega)
          have h5 := zHb (w := 0) hrn hgs 100 (W u) 0 Z hw (by omega) (by omega)
          simp (disch := omega) only [zpl1, zpl2, zpl3, zob1, zob2, zob3, zlt, zeq, znn, zn9, zat, zput, zaddc, zag, zas, zl2, zl3, zl4, zl5, zl7, zl8, zl10, zl11, zl12, zl16, zl20, zl22, zl23, zl31, zl32, zl60, zl64, zl80, zl100, zl121, zl181, zl241, zl249, zl261, zl273, zl285, zl297, zl309, zl321, zl322, zl323, zl324, zl325, zl326, zl327, zl500, zl61, zl328, zl329, zl657, zl986, nI_1, z1I, zadd, if_true, if_false, aM.2.2.2.2.2.2 u hu.1, aC.2.2.2.2.2.2.1]
          rw [show f_X0_hoursToBreak_L20 (nI rn) (nI gs) Z (nI (W u)) 0 = _ from h5, show f_X7_breaksIn_L63 (nI rn) (nI gs) Z (nI (W u)) 0 = _ from h1, h4]
          simp (disch := omega) only [zpl1, zpl2, zpl3, zob1, zob2, zob3, zlt, zeq, znn, zn9, zat, zput, zaddc, zag, zas, zl2, zl3, zl4, zl5, zl7, zl8, zl10, zl11, zl12, zl16, zl20, zl22, zl23, zl31, zl32, zl60, zl64, zl80, zl100, zl121, zl181, zl241, zl249, zl261, zl273, zl285, zl297, zl309, zl321, zl322, zl323, zl324, zl325, zl326, zl327, zl500, zl61, zl328, zl329, zl657, zl986, nI_1, z1I, zadd, if_true, if_false]
          by_cases hc : w' < 32
          · simp only [hc, if_true, zev]; exact zAg.rf
          · simp only [hc, if_false, zev]; exact zAg.rf
      · rw [e1, e2, f1, f2, g1, g2]; exact zAg.rf
    · rw [e1, e2, f1, f2]; exact zAg.rf
  · rw [e1, e2]; exact zAg.rf
def zwant (H : Nat → Option Nat) (C O : Nat → Nat) (s m : Nat) : Nat := zsm (fun k => zid (O k = s ∧ H k = none ∧ 10 ≤ C k)) m
section wl
variable {n : Nat} {S W : Nat → Nat} {H : Nat → Option Nat} {T C P O : Nat → Nat} {h r : Nat} {sp we le ta : Nat → Int32} {num : Int32} {rooms pu sh ho pa : Nat → Int32} {hours house spent loans surges rate : Int32} {q q' : Nat → Int32}
theorem zLack (aC : zRC n S W sp we ta num) (aP : zRP n S W H T C P O h pu sh ho pa q) {Z s : Nat} (hZ : 100 < Z) (hs : s < 8) : f_X0_lackAt Z sp we ta num pu ho (nI s) = some (nI (zwant H C O s 12) - nI (zc S s n - zb S W s n)) := by
  unfold f_X0_lackAt
  have hw := fun k (hk : k < 12) => zWould aC aP hk
  have h1 := zloop0 (fun F (a : Int32) i => f_X0_lackAt_L4 ta pu ho (nI s) F a i) (fun i => nI (zwant H C O s i)) 12 (nI (zwant H C O s 12)) (F := Z) (by omega) (fun F => by
    show f_X0_lackAt_L4 ta pu ho (nI s) (F + 1) _ _ = _
    rw [f_X0_lackAt_L4, if_neg (by decide)]) (fun F i hi => by
    show f_X0_lackAt_L4 ta pu ho (nI s) (F + 1) _ _ = f_X0_lackAt_L4 ta pu ho (nI s) F _ _
    have hO := aP.2.2.2.2.2 i hi
    have := hO.2.2
    rw [f_X0_lackAt_L4]
    simp (disch := omega) only [zpl1, zpl2, zpl3, zob1, zob2, zob3, zlt, zeq, znn, zn9, zat, zput, zaddc, zag, zas, zl2, zl3, zl4, zl5, zl7, zl8, zl10, zl11, zl12, zl16, zl20, zl22, zl23, zl31, zl32, zl60, zl64, zl80, zl100, zl121, zl181, zl241, zl249, zl261, zl273, zl285, zl297, zl309, zl321, zl322, zl323, zl324, zl325, zl326, zl327, zl500, zl61, zl328, zl329, zl657, zl986, nI_1, z1I, zadd, if_true, if_false, hi, hw, hO.1]
    simp only [zwant, zsm, zid]
    by_cases hc : O i = s
    · by_cases hd : H i = none ∧ 10 ≤ C i
      · simp [hc, hd, nI_1]
      · simp only [hc, hd]; simp
    · simp [hc])
  have h2 : f_X0_lackAt_L4 ta pu ho (nI s) Z 0 0 = some _ := h1
  rw [h2, zob1, zWholeAt aC hZ (by omega), zob1]
theorem zWanting (aP : zRP n S W H T C P O h pu sh ho pa q) (hn : n ≤ 60) {Z s : Nat} (hZ : 100 < Z) (hs : s < 8) : f_X7_wanting Z q (nI s) = some (nI (zwant H C O s 12)) := by
  unfold f_X7_wanting
  have hw := fun k (hk : k < 12) => zCanB aP hk hn
  have h1 := zloop0 (fun F (a : Int32) i => f_X7_wanting_L4 q (nI s) F a i) (fun i => nI (zwant H C O s i)) 12 (nI (zwant H C O s 12)) (F := Z) (by omega) (fun F => by
    show f_X7_wanting_L4 q (nI s) (F + 1) _ _ = _
    rw [f_X7_wanting_L4, if_neg (by decide)]) (fun F i hi => by
    show f_X7_wanting_L4 q (nI s) (F + 1) _ _ = f_X7_wanting_L4 q (nI s) F _ _
    have hO := aP.2.2.2.2.2 i hi
    have := hO.2.2
    rw [f_X7_wanting_L4]
    simp (disch := omega) only [zpl1, zpl2, zpl3, zob1, zob2, zob3, zlt, zeq, znn, zn9, zat, zput, zaddc, zag, zas, zl2, zl3, zl4, zl5, zl7, zl8, zl10, zl11, zl12, zl16, zl20, zl22, zl23, zl31, zl32, zl60, zl64, zl80, zl100, zl121, zl181, zl241, zl249, zl261, zl273, zl285, zl297, zl309, zl321, zl322, zl323, zl324, zl325, zl326, zl327, zl500, zl61, zl328, zl329, zl657, zl986, nI_1, z1I, zadd, if_true, if_false, hi, hw, hO.2.1]
    simp only [zwant, zsm, zid]
    by_cases hc : O i = s
    · by_cases hd : H i = none ∧ 10 ≤ C i
      · simp [hc, hd, nI_1, zob1]
      · simp only [hc, hd]; simp [zob1]
    · simp [hc, zob1])
  have h2 : f_X7_wanting_L4 q (nI s) Z 0 0 = some _ := h1
  rw [h2]; rfl
end wl
/-- the stand that lacks most little, with what it lacks: over the stands below i -/
def zsh (L : Nat → Int32) : Nat → Option Nat × Int32
  | 0 => (none, -9)
  | i + 1 => if 0 < L i ∧ ((zsh L i).1 = none ∨ L i < (zsh L i).2) then (some i, L i) else zsh L i
theorem zsh_lt (L : Nat → Int32) {i m : Nat} (h : (zsh L i).1 = some m) : m < i := by
  induction i with
  | zero => cases h
  | succ i ih =>
    unfold zsh at h
    split at h
    · cases h; omega
    · have := ih h; omega
theorem zz_shortest {Z : Nat} {c : CV} {q : Nat → Int32} (hZ : 5000 < Z) (a : zRT c q) (p1 : Int32) : zAg (f_X6_shortest Z c p1) (f_X7_shortest Z q p1) := by
  obtain ⟨n, S, W, H, T, C, P, O, h, r, hh, aC, aM, aL, aP, aG⟩ := a
  unfold f_X6_shortest f_X7_shortest
  rcases zr1 p1 with ⟨k, hk, rfl, e1, e2⟩ | ⟨e1, e2⟩
  · rw [e1, e2]
    simp only [z10, if_true, if_false]
    let L : Nat → Int32 := fun s => nI (zwant H C O s 12) - nI (zc S s n - zb S W s n)
    have hL : ∀ s, s < 8 → f_X0_lackAt Z c.1 c.2.1 c.2.2.2.1 c.2.2.2.2.1 c.2.2.2.2.2.2.1 c.2.2.2.2.2.2.2.2.1 (nI s) = some (L s) := fun s hs => zLack aC aP (by omega) hs
    have hLM : ∀ s, nI (zwant H C O s 12) - nI (zc S s n) + nI (zb S W s n) = L s := fun s => by
      show _ = nI (zwant H C O s 12) - nI (zc S s n - zb S W s n)
      rw [← zsub (zb_le S W s n)]
      grind
    have hz : ∀ s, s < 8 → (0 : Int32) = nI (zpl s) := fun s hs => by unfold zpl; rw [if_pos (by omega)]; rfl
    have hw : ∀ s, s < 8 → nI s = nI (zwh s) := fun s hs => by unfold zwh; rw [if_pos (by omega)]
    have h1 := zloop0 (fun F (a : Option Nat × Int32) i => f_X6_shortest_L20 Z c F (zev (-9) a.1) a.2 i) (zsh L) 8 (zev (-9) (zsh L 8).1, (zsh L 8).2) (F := Z) (by omega) (fun F => by
      show f_X6_shortest_L20 Z c (F + 1) _ _ _ = _
      rw [f_X6_shortest_L20, if_neg (by decide)]) (fun F i hi => by
      show f_X6_shortest_L20 Z c (F + 1) _ _ _ = f_X6_shortest_L20 Z c F _ _ _
      rw [f_X6_shortest_L20]
      have hm := fun m => zsh_lt L (i := i) (m := m)
      rw [show zsh L (i + 1) = if 0 < L i ∧ ((zsh L i).1 = none ∨ L i < (zsh L i).2) then (some i, L i) else zsh L i from rfl]
      simp (disch := omega) only [zpl1, zpl2, zpl3, zob1, zob2, zob3, zlt, zeq, znn, zn9, zat, zput, zaddc, zag, zas, zl2, zl3, zl4, zl5, zl7, zl8, zl10, zl11, zl12, zl16, zl20, zl22, zl23, zl31, zl32, zl60, zl64, zl80, zl100, zl121, zl181, zl241, zl249, zl261, zl273, zl285, zl297, zl309, zl321, zl322, zl323, zl324, zl325, zl326, zl327, zl500, zl61, zl328, zl329, zl657, zl986, nI_1, z1I, zadd, if_true, if_false, hi, hL i hi]
      generalize zsh L i = o at hm ⊢
      obtain ⟨o, v⟩ := o
      by_cases hc : 0 < L i
      · cases o with
        | none => simp [hc, zev, zpl2]
        | some m =>
          have := hm m rfl
          simp only [zev]
          simp (disch := omega) only [zpl1, zpl2, zpl3, zob1, zob2, zob3, zlt, zeq, znn, zn9, zat, zput, zaddc, zag, zas, zl2, zl3, zl4, zl5, zl7, zl8, zl10, zl11, zl12, zl16, zl20, zl22, zl23, zl31, zl32, zl60, zl64, zl80, zl100, zl121, zl181, zl241, zl249, zl261, zl273, zl285, zl297, zl309, zl321, zl322, zl323, zl324, zl325, zl326, zl327, zl500, zl61, zl328, zl329, zl657, zl986, nI_1, z1I, zadd, if_true, if_false]
          by_cases hd : L i < v <;> simp [hc, hd, zev, zpl2]
      · simp [hc, zpl2])
    have h2 := zloop0 (fun F (a : Option Nat × Int32) i => f_X7_shortest_L20 Z q F (zev (-9) a.1) a.2 i) (zsh L) 8 (zev (-9) (zsh L 8).1, (zsh L 8).2) (F := Z) (by omega) (fun F => by
      show f_X7_shortest_L20 Z q (F + 1) _ _ _ = _
      rw [f_X7_shortest_L20, if_neg (by decide)]) (fun F i hi => by
      show f_X7_shortest_L20 Z q (F + 1) _ _ _ = f_X7_shortest_L20 Z q F _ _ _
      rw [f_X7_shortest_L20]
      have hm := fun m => zsh_lt L (i := i) (m := m)
      rw [show zsh L (i + 1) = if 0 < L i ∧ ((zsh L i).1 = none ∨ L i < (zsh L i).2) then (some i, L i) else zsh L i from rfl]
      rw [zWanting aP aC.1 (by omega) hi, zMany aM (by omega) (s := i) (by omega) (hz i hi) (hw i hi), zBrk aM (by omega) (s := i) (by omega) (hz i hi) (hw i hi)]
      simp (disch := omega) only [zpl1, zpl2, zpl3, zob1, zob2, zob3, zlt, zeq, znn, zn9, zat, zput, zaddc, zag, zas, zl2, zl3, zl4, zl5, zl7, zl8, zl10, zl11, zl12, zl16, zl20, zl22, zl23, zl31, zl32, zl60, zl64, zl80, zl100, zl121, zl181, zl241, zl249, zl261, zl273, zl285, zl297, zl309, zl321, zl322, zl323, zl324, zl325, zl326, zl327, zl500, zl61, zl328, zl329, zl657, zl986, nI_1, z1I, zadd, if_true, if_false, hi, hLM]
      generalize zsh L i = o at hm ⊢
      obtain ⟨o, v⟩ := o
      by_cases hc : 0 < L i
      · cases o with
        | none => simp [hc, zev, show (-9 : Int32) < 0 from by decide]
        | some m =>
          have := hm m rfl
          simp only [zev]
          simp (disch := omega) only [zpl1, zpl2, zpl3, zob1, zob2, zob3, zlt, zeq, znn, zn9, zat, zput, zaddc, zag, zas, zl2, zl3, zl4, zl5, zl7, zl8, zl10, zl11, zl12, zl16, zl20, zl22, zl23, zl31, zl32, zl60, zl64, zl80, zl100, zl121, zl181, zl241, zl249, zl261, zl273, zl285, zl297, zl309, zl321, zl322, zl323, zl324, zl325, zl326, zl327, zl500, zl61, zl328, zl329, zl657, zl986, nI_1, z1I, zadd, if_true, if_false]
          by_cases hd : L i < v <;> simp [hc, hd, zev, zpl2]
      · simp [hc, zpl2])
    rw [show f_X6_shortest_L20 Z c Z (-9) (-9) 0 = _ from h1, show f_X7_shortest_L20 Z q Z (-9) (-9) 0 = _ from h2]
    exact zAg.ite (fun _ => zAg.rf) (fun _ => zAg.rf)
  · rw [e1, e2]; exact zAg.rf
