def zB (n : Nat) (W : Nat → Nat) (H : Nat → Option Nat) (T C P O : Nat → Nat) (h : Nat) (we : Nat → Int32) (num : Int32) (pu sh ho pa q : Nat → Int32) (S : Nat → Nat) (sp ta w : Nat → Int32) : Prop :=
  zRC n S W sp we ta num ∧ zRM n S W w ∧ (∀ i, 181 ≤ i → w i = q i) ∧ zRP n S W H T C P O h pu sh ho pa w
section zB
variable {n : Nat} {S W : Nat → Nat} {H : Nat → Option Nat} {T C P O : Nat → Nat} {h r : Nat} {sp we le ta : Nat → Int32} {num : Int32} {rooms pu sh ho pa : Nat → Int32} {hours house spent loans surges rate : Int32} {q w : Nat → Int32}
theorem zB.mv (a : zB n W H T C P O h we num pu sh ho pa q S sp ta w) {u t : Nat} {x y : Int32} (hu : u < n) (h1 : ¬ (8 ≤ S u ∧ S u < 20)) (ht : t < 24) (h2 : ¬ (8 ≤ t ∧ t < 20)) (hx : x = nI (zpl t)) (hy : t < 22 → y = nI (zwh t)) : zB n W H T C P O h we num pu sh ho pa q (zup S u t) (f_X5_move sp ta (nI u) (nI t)).1 (f_X5_move sp ta (nI u) (nI t)).2 (upd (upd w (1 + u) x) (61 + u) y) := by
  obtain ⟨b1, b2, b3, b4⟩ := a
  have hn := b1.1
  refine ⟨zMv b1 hu ht, zMm b2 hu ht hx hy, fun i hi => ?_, (b4.mv h1 h2).fr (fun i hi _ => ?_)⟩
  · rw [zun (by omega), zun (by omega)]; exact b3 i hi
  · rw [zun (by omega), zun (by omega)]
theorem zB.ct {c : CV} (a : zB n W H T C P O h c.2.1 c.2.2.2.2.1 c.2.2.2.2.2.2.1 c.2.2.2.2.2.2.2.1 c.2.2.2.2.2.2.2.2.1 c.2.2.2.2.2.2.2.2.2.1 q S sp ta w) (hh : h ≤ 500) (aL : zRL n c.2.2.1 q) (aG : zRG P h r c.2.2.2.2.2.1 c.2.2.2.2.2.2.2.2.2.2.1 c.2.2.2.2.2.2.2.2.2.2.2.1 c.2.2.2.2.2.2.2.2.2.2.2.2.1 c.2.2.2.2.2.2.2.2.2.2.2.2.2.1 c.2.2.2.2.2.2.2.2.2.2.2.2.2.2.1 c.2.2.2.2.2.2.2.2.2.2.2.2.2.2.2 q) : zRT (sp, c.2.1, c.2.2.1, ta, c.2.2.2.2.1, c.2.2.2.2.2.1, c.2.2.2.2.2.2.1, c.2.2.2.2.2.2.2.1, c.2.2.2.2.2.2.2.2.1, c.2.2.2.2.2.2.2.2.2.1, c.2.2.2.2.2.2.2.2.2.2.1, c.2.2.2.2.2.2.2.2.2.2.2.1, c.2.2.2.2.2.2.2.2.2.2.2.2.1, c.2.2.2.2.2.2.2.2.2.2.2.2.2.1, c.2.2.2.2.2.2.2.2.2.2.2.2.2.2.1, c.2.2.2.2.2.2.2.2.2.2.2.2.2.2.2) w := by
  obtain ⟨b1, b2, b3, b4⟩ := a
  exact ⟨n, S, W, H, T, C, P, O, h, r, hh, b1, b2, aL.fr b1.1 (fun i hi _ => b3 i hi), b4, aG.fr (fun i hi => b3 i (by omega))⟩
theorem zLoadL {Z m s v : Nat} (hZ : 100 < Z) (hs : s < 8) (hv : v < 2) (hm : m ≤ 10) : ∀ k i F acc S sp ta w, m - i = k → i ≤ m → m - i < F → acc ≤ i → zB n W H T C P O h we num pu sh ho pa q S sp ta w → m - i ≤ zc S s n → ∃ S' sp' ta' w' r, f_X0_fillVan_L6 Z we num (nI v) (nI s) (nI m) F (nI acc) (nI i) sp ta = some (r, sp', ta') ∧ f_X7_load_L50 Z (nI v) (nI s) (nI m) F (nI acc) (nI i) w = some (r, w') ∧ zB n W H T C P O h we num pu sh ho pa q S' sp' ta' w' := by
  intro k
  induction k with
  | zero =>
    intro i F acc S sp ta w hk hi hF hacc b hc
    obtain ⟨F, rfl⟩ : ∃ G, F = G + 1 := ⟨F - 1, by omega⟩
    have : i = m := by omega
    subst this
    refine ⟨S, sp, ta, w, nI acc, ?_, ?_, b⟩
    · rw [f_X0_fillVan_L6]; simp (disch := omega) only [zpl1, zpl2, zpl3, zob1, zob2, zob3, zlt, zeq, znn, zn9, zat, zput, zaddc, zag, zas, zl2, zl3, zl4, zl5, zl7, zl8, zl10, zl11, zl12, zl16, zl20, zl22, zl23, zl31, zl32, zl60, zl64, zl80, zl100, zl121, zl181, zl241, zl249, zl261, zl273, zl285, zl297, zl309, zl321, zl322, zl323, zl324, zl325, zl326, zl327, zl500, zl61, zl328, zl329, zl657, zl986, nI_1, z1I, zadd, if_true, if_false, Nat.lt_irrefl]
    · rw [f_X7_load_L50]; simp (disch := omega) only [zpl1, zpl2, zpl3, zob1, zob2, zob3, zlt, zeq, znn, zn9, zat, zput, zaddc, zag, zas, zl2, zl3, zl4, zl5, zl7, zl8, zl10, zl11, zl12, zl16, zl20, zl22, zl23, zl31, zl32, zl60, zl64, zl80, zl100, zl121, zl181, zl241, zl249, zl261, zl273, zl285, zl297, zl309, zl321, zl322, zl323, zl324, zl325, zl326, zl327, zl500, zl61, zl328, zl329, zl657, zl986, nI_1, z1I, zadd, if_true, if_false, Nat.lt_irrefl]
  | succ k ih =>
    intro i F acc S sp ta w hk hi hF hacc b hc
    obtain ⟨F, rfl⟩ : ∃ G, F = G + 1 := ⟨F - 1, by omega⟩
    have him : i < m := by omega
    have hn := b.1.1
    have hpos : 0 < zc S s n := by omega
    obtain ⟨u0, hu0, hz0⟩ := zsm_pos.1 hpos
    have hS0 : S u0 = s := by
      by_cases e : S u0 = s
      · exact e
      · simp only [zid, if_neg e] at hz0; omega
    cases ho : zwors S W s n with
    | none => exact absurd hS0 (zam_none.1 ho u0 hu0)
    | some u =>
      have hu := zam_ok ho
      have hSu : S u = s := hu.2
      have hW := b.1.2.2.2.1 u
      have hv1 : nI 2 = nI (zpl (20 + v)) := by
        have : v = 0 ∨ v = 1 := by omega
        rcases this with rfl | rfl <;> rfl
      have hv2 : nI v = nI (zwh (20 + v)) := by
        have : v = 0 ∨ v = 1 := by omega
        rcases this with rfl | rfl <;> rfl
      have hb' := b.mv (u := u) (t := 20 + v) hu.1 (by omega) (by omega) (by omega) hv1 (fun _ => hv2)
      have hcu := zc_up (S := S) (u := u) (t := 20 + v) (s := s) hu.1
      have hzz1 : zid (S u = s) = 1 := by simp [zid, hSu]
      have hzz2 : zid (20 + v = s) = 0 := by unfold zid; rw [if_neg (by omega)]
      have hbr : f_X5_isBroken we (nI u) = if W u < 32 then 0 else 1 := ziB (by omega) (b.1.2.2.2.2.2.2.1 u (by omega)) hW
      have hbm := ziBm hb'.2.1 hu.1
      rw [f_X0_fillVan_L6, f_X7_load_L50, zWorst b.1 hZ (by omega), zWorM b.2.1 hZ hs, ho]
      simp only [zev, zob1]
      rw [zGo (by omega), zob1, hbr]
      have e2 : (2 : Int32) = nI 2 := rfl
      rw [e2, hbm]
      simp (disch := omega) only [zpl1, zpl2, zpl3, zob1, zob2, zob3, zlt, zeq, znn, zn9, zat, zput, zaddc, zag, zas, zl2, zl3, zl4, zl5, zl7, zl8, zl10, zl11, zl12, zl16, zl20, zl22, zl23, zl31, zl32, zl60, zl64, zl80, zl100, zl121, zl181, zl241, zl249, zl261, zl273, zl285, zl297, zl309, zl321, zl322, zl323, zl324, zl325, zl326, zl327, zl500, zl61, zl328, zl329, zl657, zl986, nI_1, z1I, zadd, if_true, if_false, him]
      have e20 : f_X5_move sp ta (nI u) (nI (20 + v)) = ((f_X5_move sp ta (nI u) (nI (20 + v))).1, (f_X5_move sp ta (nI u) (nI (20 + v))).2) := rfl
      rw [e20, zpl2]
      by_cases hc32 : W u < 32
      · simp only [hc32, if_true, Int32.add_zero]
        exact ih (i + 1) F acc _ _ _ _ (by omega) (by omega) (by omega) (by omega) hb' (by omega)
      · simp only [hc32, if_false, z10]
        rw [nI_1]
        exact ih (i + 1) F (acc + 1) _ _ _ _ (by omega) (by omega) (by omega) (by omega) hb' (by omega)
theorem zUnlL {m s v : Nat} (hs : s < 8) (hv : v < 2) (hm : m ≤ 10) : ∀ k i F mv S sp ta w, n - i = k → i ≤ n → n - i < F → mv ≤ m → zB n W H T C P O h we num pu sh ho pa q S sp ta w → ∃ S' sp' ta' w', f_X0_emptyVan_L6 we num (nI v) (nI s) (nI m) F (nI mv) (nI i) sp ta = some (sp', ta') ∧ f_X7_unload_L53 (nI v) (nI s) F (nI (m - mv)) (nI i) w = some w' ∧ zB n W H T C P O h we num pu sh ho pa q S' sp' ta' w' := by
  intro k
  induction k with
  | zero =>
    intro i F mv S sp ta w hk hi hF hmv b
    obtain ⟨F, rfl⟩ : ∃ G, F = G + 1 := ⟨F - 1, by omega⟩
    have : i = n := by omega
    subst this
    have hn := b.1.1
    have hq := b.2.1.2.1
    refine ⟨S, sp, ta, w, ?_, ?_, b⟩
    · rw [f_X0_emptyVan_L6, b.1.2.1]; simp (disch := omega) only [zpl1, zpl2, zpl3, zob1, zob2, zob3, zlt, zeq, znn, zn9, zat, zput, zaddc, zag, zas, zl2, zl3, zl4, zl5, zl7, zl8, zl10, zl11, zl12, zl16, zl20, zl22, zl23, zl31, zl32, zl60, zl64, zl80, zl100, zl121, zl181, zl241, zl249, zl261, zl273, zl285, zl297, zl309, zl321, zl322, zl323, zl324, zl325, zl326, zl327, zl500, zl61, zl328, zl329, zl657, zl986, nI_1, z1I, zadd, if_true, if_false, Nat.lt_irrefl]
    · rw [f_X7_unload_L53, show aget 986 w 0 = some (w 0) from rfl]; simp (disch := omega) only [zpl1, zpl2, zpl3, zob1, zob2, zob3, zlt, zeq, znn, zn9, zat, zput, zaddc, zag, zas, zl2, zl3, zl4, zl5, zl7, zl8, zl10, zl11, zl12, zl16, zl20, zl22, zl23, zl31, zl32, zl60, zl64, zl80, zl100, zl121, zl181, zl241, zl249, zl261, zl273, zl285, zl297, zl309, zl321, zl322, zl323, zl324, zl325, zl326, zl327, zl500, zl61, zl328, zl329, zl657, zl986, nI_1, z1I, zadd, if_true, if_false, Nat.lt_irrefl, hq]
  | succ k ih =>
    intro i F mv S sp ta w hk hi hF hmv b
    obtain ⟨F, rfl⟩ : ∃ G, F = G + 1 := ⟨F - 1, by omega⟩
    have hin : i < n := by omega
    have hn := b.1.1
    have hq := b.2.1.2.1
    have hW := b.1.2.2.2.1 i
    have hSi := b.1.2.2.1 i hin
    have hsp := b.1.2.2.2.2.2.1
    have hv1 : nI 2 = nI (zpl (20 + v)) := by
      have : v = 0 ∨ v = 1 := by omega
      rcases this with rfl | rfl <;> rfl
    have hv2 : nI v = nI (zwh (20 + v)) := by
      have : v = 0 ∨ v = 1 := by omega
      rcases this with rfl | rfl <;> rfl
    have hbr : f_X5_isBroken we (nI i) = if W i < 32 then 0 else 1 := ziB (by omega) (b.1.2.2.2.2.2.2.1 i (by omega)) hW
    have hbm := ziBm b.2.1 hin
    have hat := zIsAt b.2.1 hin (s := 20 + v) (by omega) hv1 hv2
    have e20 : (nI 20 + nI v : Int32) = nI (20 + v) := zadd _ _
    have e0 : (0 < nI (m - mv)) = (0 < m - mv) := zlt (a := 0) (by omega) (by omega)
    rw [f_X0_emptyVan_L6, b.1.2.1, f_X7_unload_L53, show aget 986 w 0 = some (w 0) from rfl, zGo (by omega), hbr, hbm, show (2 : Int32) = nI 2 from rfl, hat]
    simp (disch := omega) only [zpl1, zpl2, zpl3, zob1, zob2, zob3, zlt, zeq, znn, zn9, zat, zput, zaddc, zag, zas, zl2, zl3, zl4, zl5, zl7, zl8, zl10, zl11, zl12, zl16, zl20, zl22, zl23, zl31, zl32, zl60, zl64, zl80, zl100, zl121, zl181, zl241, zl249, zl261, zl273, zl285, zl297, zl309, zl321, zl322, zl323, zl324, zl325, zl326, zl327, zl500, zl61, zl328, zl329, zl657, zl986, nI_1, z1I, zadd, if_true, if_false, hq, hin, e0, hsp]
    by_cases hlt : mv < m
    · have hlt' : 0 < m - mv := by omega
      simp only [hlt, hlt', if_true]
      by_cases hc : S i = 20 + v
      · by_cases hd : W i < 32
        · have hb' := b.mv (u := i) (t := s) (x := 0) (y := nI s) hin (by omega) (by omega) (by omega) (by unfold zpl; rw [if_pos hs]; rfl) (fun _ => by unfold zwh; rw [if_pos hs])
          simp only [hc, hd, if_true, z10, if_false]
          have e21 : f_X5_move sp ta (nI i) (nI s) = ((f_X5_move sp ta (nI i) (nI s)).1, (f_X5_move sp ta (nI i) (nI s)).2) := rfl
          rw [e21, zpl2, zpl3, zob2, show nI (m - mv) + -1 = nI (m - (mv + 1)) by
            obtain ⟨y, hy⟩ : ∃ y, m - mv = y + 1 := ⟨m - mv - 1, by omega⟩
            rw [hy, show m - (mv + 1) = y by omega, nI_succ, Int32.add_assoc]; simp, ← b.1.2.1]
          exact ih (i + 1) F (mv + 1) _ _ _ _ (by omega) (by omega) (by omega) (by omega) hb'
        · simp only [hc, hd, if_true, z10, if_false]
          rw [zpl3, zob2, ← b.1.2.1]
          exact ih (i + 1) F mv _ _ _ _ (by omega) (by omega) (by omega) (by omega) b
      · simp only [hc, if_true, if_false]
        rw [zpl3, zob2, ← b.1.2.1]
        exact ih (i + 1) F mv _ _ _ _ (by omega) (by omega) (by omega) (by omega) b
    · have hlt' : ¬ 0 < m - mv := by omega
      simp only [hlt, hlt', if_false]
      rw [← b.1.2.1]
      exact ⟨S, sp, ta, w, rfl, rfl, b⟩
theorem zDelL {v : Nat} (hv : v < 2) (S0 : Nat → Nat) : ∀ k i F S sp ta w, n - i = k → i ≤ n → n - i < F → (∀ u, i ≤ u → S u = S0 u) → zB n W H T C P O h we num pu sh ho pa q S sp ta w → ∃ S' sp' ta' w', f_X0_deliver_L4 we num (nI v) F (nI (zb S0 W (20 + v) i)) (nI i) sp ta = some (nI (zb S0 W (20 + v) n), sp', ta') ∧ f_X7_toWorkshop_L31 (nI v) F (nI i) w = some w' ∧ zB n W H T C P O h we num pu sh ho pa q S' sp' ta' w' := by
  intro k
  induction k with
  | zero =>
    intro i F S sp ta w hk hi hF hS0 b
    obtain ⟨F, rfl⟩ : ∃ G, F = G + 1 := ⟨F - 1, by omega⟩
    have : i = n := by omega
    subst this
    have hn := b.1.1
    have hq := b.2.1.2.1
    refine ⟨S, sp, ta, w, ?_, ?_, b⟩
    · rw [f_X0_deliver_L4, b.1.2.1]; simp (disch := omega) only [zpl1, zpl2, zpl3, zob1, zob2, zob3, zlt, zeq, znn, zn9, zat, zput, zaddc, zag, zas, zl2, zl3, zl4, zl5, zl7, zl8, zl10, zl11, zl12, zl16, zl20, zl22, zl23, zl31, zl32, zl60, zl64, zl80, zl100, zl121, zl181, zl241, zl249, zl261, zl273, zl285, zl297, zl309, zl321, zl322, zl323, zl324, zl325, zl326, zl327, zl500, zl61, zl328, zl329, zl657, zl986, nI_1, z1I, zadd, if_true, if_false, Nat.lt_irrefl]
    · rw [f_X7_toWorkshop_L31, show aget 986 w 0 = some (w 0) from rfl]; simp (disch := omega) only [zpl1, zpl2, zpl3, zob1, zob2, zob3, zlt, zeq, znn, zn9, zat, zput, zaddc, zag, zas, zl2, zl3, zl4, zl5, zl7, zl8, zl10, zl11, zl12, zl16, zl20, zl22, zl23, zl31, zl32, zl60, zl64, zl80, zl100, zl121, zl181, zl241, zl249, zl261, zl273, zl285, zl297, zl309, zl321, zl322, zl323, zl324, zl325, zl326, zl327, zl500, zl61, zl328, zl329, zl657, zl986, nI_1, z1I, zadd, if_true, if_false, Nat.lt_irrefl, hq]
  | succ k ih =>
    intro i F S sp ta w hk hi hF hS0 b
    obtain ⟨F, rfl⟩ : ∃ G, F = G + 1 := ⟨F - 1, by omega⟩
    have hin : i < n := by omega
    have hn := b.1.1
    have hq := b.2.1.2.1
    have hW := b.1.2.2.2.1 i
    have hSi := b.1.2.2.1 i hin
    have hsp := b.1.2.2.2.2.2.1
    have hv1 : nI 2 = nI (zpl (20 + v)) := by
      have : v = 0 ∨ v = 1 := by omega
      rcases this with rfl | rfl <;> rfl
    have hv2 : nI v = nI (zwh (20 + v)) := by
      have : v = 0 ∨ v = 1 := by omega
      rcases this with rfl | rfl <;> rfl
    have hbr : f_X5_isBroken we (nI i) = if W i < 32 then 0 else 1 := ziB (by omega) (b.1.2.2.2.2.2.2.1 i (by omega)) hW
    have hbm := ziBm b.2.1 hin
    have hat := zIsAt b.2.1 hin (s := 20 + v) (by omega) hv1 hv2
    have hzb : zb S0 W (20 + v) (i + 1) = zb S0 W (20 + v) i + zid (S i = 20 + v ∧ 32 ≤ W i) := by
      rw [hS0 i (by omega)]; rfl
    have hle := zb_le S0 W (20 + v) i
    have hle2 := zc_le S0 (20 + v) i
    rw [f_X0_deliver_L4, b.1.2.1, f_X7_toWorkshop_L31, show aget 986 w 0 = some (w 0) from rfl, zGo (by omega), hbr, hbm, show (2 : Int32) = nI 2 from rfl, hat]
    simp (disch := omega) only [zpl1, zpl2, zpl3, zob1, zob2, zob3, zlt, zeq, znn, zn9, zat, zput, zaddc, zag, zas, zl2, zl3, zl4, zl5, zl7, zl8, zl10, zl11, zl12, zl16, zl20, zl22, zl23, zl31, zl32, zl60, zl64, zl80, zl100, zl121, zl181, zl241, zl249, zl261, zl273, zl285, zl297, zl309, zl321, zl322, zl323, zl324, zl325, zl326, zl327, zl500, zl61, zl328, zl329, zl657, zl986, nI_1, z1I, zadd, if_true, if_false, hq, hin, hsp]
    by_cases hc : S i = 20 + v
    · by_cases hd : W i < 32
      · simp only [hc, hd, if_true, z10, if_false]
        rw [zpl3, zob1, ← b.1.2.1]
        have e : zid (S i = 20 + v ∧ 32 ≤ W i) = 0 := by unfold zid; rw [if_neg (by omega)]
        rw [e] at hzb
        rw [← show zb S0 W (20 + v) (i + 1) = zb S0 W (20 + v) i from hzb]
        exact ih (i + 1) F _ _ _ _ (by omega) (by omega) (by omega) (fun u hu => hS0 u (by omega)) b
      · have hb' := b.mv (u := i) (t := 22) (x := nI 3) (y := 0) hin (by omega) (by omega) (by omega) rfl (fun e => by omega)
        simp only [hc, hd, if_true, z10, if_false]
        have e21 : f_X5_move sp ta (nI i) (nI 22) = ((f_X5_move sp ta (nI i) (nI 22)).1, (f_X5_move sp ta (nI i) (nI 22)).2) := rfl
        have e : zid (S i = 20 + v ∧ 32 ≤ W i) = 1 := by unfold zid; rw [if_pos (by omega)]
        rw [e] at hzb
        rw [e21, zpl2, zpl3, zob1, ← b.1.2.1, ← show zb S0 W (20 + v) (i + 1) = zb S0 W (20 + v) i + 1 from hzb]
        exact ih (i + 1) F _ _ _ _ (by omega) (by omega) (by omega) (fun u hu => by rw [zup_n (by omega)]; exact hS0 u (by omega)) hb'
    · simp only [hc, if_true, if_false]
      rw [zpl3, zob1, ← b.1.2.1]
      have e : zid (S i = 20 + v ∧ 32 ≤ W i) = 0 := by unfold zid; rw [if_neg (fun x => hc x.1)]
      rw [e] at hzb
      rw [← show zb S0 W (20 + v) (i + 1) = zb S0 W (20 + v) i from hzb]
      exact ih (i + 1) F _ _ _ _ (by omega) (by omega) (by omega) (fun u hu => hS0 u (by omega)) b
end zB
