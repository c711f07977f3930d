theorem zRC.we {n : Nat} {S W : Nat → Nat} {sp we ta : Nat → Int32} {num : Int32} (a : zRC n S W sp we ta num) {u x : Nat} (hu : u < n) (hx : x ≤ 64) : zRC n S (zup W u x) sp (upd we u (nI x)) ta num := by
  obtain ⟨h0, h1, h2, h3, h4, h5, h6, h7⟩ := a
  refine ⟨h0, h1, h2, fun v => ?_, fun v hv => ?_, h5, fun v hv => ?_, h7⟩
  · by_cases e : v = u
    · rw [zup_s e]; exact hx
    · rw [zup_n e]; exact h3 v
  · rw [zup_n (by omega)]; exact h4 v hv
  · by_cases e : v = u
    · rw [zup_s e, zus e]
    · rw [zup_n e, zun e]; exact h6 v hv
theorem zRM.we {n : Nat} {S W : Nat → Nat} {q : Nat → Int32} (a : zRM n S W q) {u x : Nat} (hu : u < n) (hx : x ≤ 64) : zRM n S (zup W u x) (upd q (121 + u) (nI x)) := by
  obtain ⟨h0, h1, h2, h3, h4, h5, h6⟩ := a
  refine ⟨h0, ?_, h2, fun v => ?_, fun v hv => ?_, fun v hv hs => ?_, fun v hv => ?_⟩
  · rw [zun (by omega)]; exact h1
  · by_cases e : v = u
    · rw [zup_s e]; exact hx
    · rw [zup_n e]; exact h3 v
  · rw [zun (by omega)]; exact h4 v hv
  · rw [zun (by omega)]; exact h5 v hv hs
  · by_cases e : v = u
    · rw [zup_s e, zus (by omega)]
    · rw [zup_n e, zun (by omega)]; exact h6 v hv
theorem zRP.we {n : Nat} {S W : Nat → Nat} {H : Nat → Option Nat} {T C P O : Nat → Nat} {h : Nat} {pu sh ho pa q : Nat → Int32} (a : zRP n S W H T C P O h pu sh ho pa q) {u x : Nat} (hu : ¬ (8 ≤ S u ∧ S u < 20)) : zRP n S (zup W u x) H T C P O h pu sh ho pa q := by
  obtain ⟨h0, h1, h2, h3, h4⟩ := a
  refine ⟨h0, h1, h2, fun k hk => ?_, h4⟩
  rw [h3 k hk]
  cases hH : H k with
  | none => rfl
  | some v =>
    have := (h0 k hk v).1 hH
    simp only [zbk]
    rw [zup_n (fun e => by subst e; omega)]
theorem zdiv4 {w : Nat} (h : w ≤ 64) : nI w / 4 = nI (w / 4) := by
  have : ∀ w, w < 65 → nI w / 4 = nI (w / 4) := by decide
  exact this w (by omega)
theorem zk3 {n : Nat} {S : Nat → Nat} (hS : ∀ u, u < n → S u ≤ 23) : zk S 3 n = zc S 22 n := by
  refine zsm_congr (fun u hu => ?_)
  have := hS u hu
  have : (zpl (S u) = 3) = (S u = 22) := by
    apply propext; unfold zpl; constructor
    · intro hh; split at hh <;> (try split at hh) <;> (try split at hh) <;> (try split at hh) <;> omega
    · intro hh; rw [hh]; rfl
  simp only [this]
theorem zlw_1 {n : Nat} {S W : Nat → Nat} (hW : ∀ u, W u ≤ 64) (h : 2 ≤ zc S 22 n) : ∃ a b, zlw S W 22 64 none n = some a ∧ zlw S W 22 64 (some a) n = some b ∧ a ≠ b ∧ a < n ∧ b < n ∧ S a = 22 ∧ S b = 22 := by
  cases ha : zlw S W 22 64 none n with
  | none =>
    have := zam_none.1 ha
    have : zc S 22 n = 0 := zsm_none (fun i hi => by
      unfold zid; rw [if_neg]; intro e; exact this i hi ⟨e, hW i, by simp⟩)
    omega
  | some a =>
    have h1 := zam_ok ha
    cases hb : zlw S W 22 64 (some a) n with
    | none =>
      have := zam_none.1 hb
      have : zc S 22 n = zid (S a = 22) := zsm_one h1.1 (fun i hi hne => by
        unfold zid; rw [if_neg]; intro e; exact this i hi ⟨e, hW i, by simpa using hne⟩)
      have := zid_le (S a = 22)
      omega
    | some b =>
      have h2 := zam_ok hb
      exact ⟨a, b, rfl, hb, fun e => h2.2.2.2 (by rw [e]), h1.1, h2.1, h1.2.1, h2.2.1⟩
theorem zz_mend {Z : Nat} {c : CV} {q : Nat → Int32} (hZ : 5000 < Z) (a : zRT c q) (p1 : Int32) : zOp Z c q (fun s0 s1 k0 k1 g nx sz => f_X6_mend Z c s0 s1 k0 k1 g nx sz p1) (fun sv st => f_X7_mend Z q sv st p1) := by
  obtain ⟨n, S, W, H, T, C, P, O, h, r, hh, aC, aM, aL, aP, aG⟩ := a
  unfold f_X6_mend f_X7_mend f_X0_mendingError f_X0_freeAt f_X0_spendable f_X7_isStand
  have hn := aC.1
  rcases zr7 p1 with ⟨s, hs, rfl, e1, e2⟩ | ⟨e1, e2⟩
  · have hcl2 := zc_le S 22 n
    have hk1 : f_X5_numberOfKind Z c.2.2.2.1 1 = some (nI (zk S 1 n)) := zKind aC (k := 1) (by omega) (by omega)
    have hi3 : f_X7_manyIn Z q 3 = some (nI (zc S 22 n)) := by rw [← zk3 aC.2.2.1]; exact zIn aM (k := 3) (by omega) (by omega)
    have h22 : f_X5_numberAt c.2.2.2.1 22 = nI (zc S 22 n) := zNum aC (s := 22) (by omega)
    have hcan : f_X7_canSpend Z q 3 = some (if c.2.2.2.2.2.2.2.2.2.2.2.1 - 10 * nI (zk S 1 n) < 3 then 0 else 1) := by
      rw [zCan aM (by omega), aG.2.2.2.1]
    have hroom : f_X7_roomOf Z q (nI s) = some (c.2.2.2.2.2.1 s - nI (zc S s n)) := by
      rw [zRoom aM (by omega) (by omega), aG.1 s (by omega)]
    have hfr : f_X2_at 8 c.2.2.2.2.2.1 (nI s) - f_X5_numberAt c.2.2.2.1 (nI s) = c.2.2.2.2.2.1 s - nI (zc S s n) := by
      rw [zat (by omega) (by omega), zNum aC (by omega)]
    have e22 : (nI (zc S 22 n) < 2) = (zc S 22 n < 2) := zlt (b := 2) (by omega) (by omega)
    simp only [e1, e2, if_true, if_false, z10, hk1, hi3, h22, hcan, hroom, hfr, zob1, e22]
    by_cases hA : zc S 22 n < 2
    · simp only [hA, if_true]
      exact zErr (-2) (fun _ _ _ _ _ _ _ => by (rw [zob1, if_neg (by decide)]; first | done | rfl)) (fun _ _ => rfl)
    · simp only [hA, if_false]
      by_cases hB : c.2.2.2.2.2.2.2.2.2.2.2.1 - 10 * nI (zk S 1 n) < 3
      · simp only [hB, if_true]
        exact zErr (-2) (fun _ _ _ _ _ _ _ => by (rw [zob1, if_neg (by decide)]; first | done | rfl)) (fun _ _ => rfl)
      · simp only [hB, if_false, z10]
        by_cases hD : 0 < c.2.2.2.2.2.1 s - nI (zc S s n)
        · right
          simp only [hD, if_true, zob1]
          obtain ⟨x, y, l1, l2, l3, l4, l5, l6, l7⟩ := zlw_1 (W := W) aC.2.2.2.1 (show 2 ≤ zc S 22 n by omega)
          have b1 := zLeast aC (Z := Z) (s := 22) (bd := 64) (x := none) (fun m hm => by cases hm) (by omega) (by omega) (by omega)
          have b2 := zLeast aC (Z := Z) (s := 22) (bd := 64) (x := some x) (fun m hm => by cases hm; omega) (by omega) (by omega) (by omega)
          have b3 := zLeastM aM (Z := Z) (x := none) (fun m hm => by cases hm) (by omega)
          have b4 := zLeastM aM (Z := Z) (x := some x) (fun m hm => by cases hm; omega) (by omega)
          rw [l1] at b1 b3
          rw [l2] at b2 b4
          have b1' : f_X5_leastWornAt Z c.1 c.2.1 c.2.2.2.2.1 22 64 (-9) = some (nI x) := b1
          have b2' : f_X5_leastWornAt Z c.1 c.2.1 c.2.2.2.2.1 22 64 (nI x) = some (nI y) := b2
          have b3' : f_X7_leastInShop Z q (-1) = some (nI x) := b3
          have b4' : f_X7_leastInShop Z q (nI x) = some (nI y) := b4
          unfold f_X0_mendOne f_X0_spend
          simp only [b1', b2', b3', b4', zob1, zpl2]
          have hWx := aC.2.2.2.1 x
          have emin : imin (nI x) (nI y) = nI (min x y) := zmin (by omega) (by omega)
          have emax : imax (nI x) (nI y) = nI (max x y) := zmax (by omega) (by omega)
          have elt : (if nI x < nI y then nI x else nI y) = nI (min x y) := by
            simp (disch := omega) only [zpl1, zpl2, zpl3, zob1, zob2, zob3, zlt, zeq, znn, zn9, zat, zput, zaddc, zag, zas, zl2, zl3, zl4, zl5, zl7, zl8, zl10, zl11, zl12, zl16, zl20, zl22, zl23, zl31, zl32, zl60, zl64, zl80, zl100, zl121, zl181, zl241, zl249, zl261, zl273, zl285, zl297, zl309, zl321, zl322, zl323, zl324, zl325, zl326, zl327, zl500, zl61, zl328, zl329, zl657, zl986, nI_1, z1I, zadd, if_true, if_false]; split <;> (congr 1; omega)
          have esm : nI x + nI y - nI (min x y) = nI (max x y) := by
            rw [zadd, zsub (by omega)]; congr 1; omega
          have eW : f_X2_at 60 c.2.1 (nI x) = nI (W x) := by
            rw [zat (by omega) (by omega)]; exact aC.2.2.2.2.2.2.1 x (by omega)
          have eWm : aget 986 q (121 + nI x) = some (nI (W x)) := by
            simp (disch := omega) only [zpl1, zpl2, zpl3, zob1, zob2, zob3, zlt, zeq, znn, zn9, zat, zput, zaddc, zag, zas, zl2, zl3, zl4, zl5, zl7, zl8, zl10, zl11, zl12, zl16, zl20, zl22, zl23, zl31, zl32, zl60, zl64, zl80, zl100, zl121, zl181, zl241, zl249, zl261, zl273, zl285, zl297, zl309, zl321, zl322, zl323, zl324, zl325, zl326, zl327, zl500, zl61, zl328, zl329, zl657, zl986, nI_1, z1I, zadd, if_true, if_false, aM.2.2.2.2.2.2]
          simp only [emin, emax, elt, zpl1, esm, eW, eWm, zob1, zdiv4 hWx]
          have hmn : min x y < n := by omega
          have hmx : max x y < n := by omega
          have hne : min x y ≠ max x y := by omega
          have hSm : S (min x y) = 22 := by rcases Nat.le_total x y with e | e <;> simp [Nat.min_eq_left, Nat.min_eq_right, e, l6, l7]
          have hSx : S (max x y) = 22 := by rcases Nat.le_total x y with e | e <;> simp [Nat.max_eq_left, Nat.max_eq_right, e, l6, l7]
          generalize hmnn : min x y = mn at *
          generalize hmxx : max x y = mx at *
          have hz0 := zpl0s (s := s) (by omega)
          have B0 : zB n W H T C P O h c.2.1 c.2.2.2.2.1 c.2.2.2.2.2.2.1 c.2.2.2.2.2.2.2.1 c.2.2.2.2.2.2.2.2.1 c.2.2.2.2.2.2.2.2.2.1 q S c.1 c.2.2.2.1 q := ⟨aC, aM, fun _ _ => rfl, aP⟩
          have M1 := zMv (zMv aC (u := mn) (t := s) hmn (by omega)) (u := mx) (t := 23) hmx (by omega)
          have N1 := zMm (zMm aM (u := mx) (t := 23) (x := nI 4) (y := nI 0) hmx (by omega) rfl (fun e => by omega)) (u := mn) (t := s) (x := 0) (y := nI s) hmn (by omega) hz0.1 (fun _ => hz0.2)
          have eS : zup (zup S mx 23) mn s = zup (zup S mn s) mx 23 := by
            funext v; unfold zup
            by_cases e1 : v = mx
            · by_cases e2 : v = mn
              · omega
              · simp [e1, e2]; intro e; omega
            · simp [e1]
          rw [eS] at N1
          have R1 := (aP.mv (u := mn) (t := s) (by omega) (by omega)).mv (u := mx) (t := 23) (by rw [zup_n (Ne.symm hne)]; omega) (by omega)
          have M2 := M1.we (u := mn) (x := W x / 4) hmn (by omega)
          have N2 := N1.we (u := mn) (x := W x / 4) hmn (by omega)
          have R2 := R1.we (u := mn) (x := W x / 4) (by rw [zup_n hne, zup_s rfl]; omega)
          have g1 : f_X7_goes q (nI mx) (nI 4) (nI 0) = some (upd (upd q (1 + mx) (nI 4)) (61 + mx) (nI 0)) := zGo (by omega)
          have g2 : ∀ w, f_X7_goes w (nI mn) 0 (nI s) = some (upd (upd w (1 + mn) 0) (61 + mn) (nI s)) := fun w => zGo (by omega)
          have g1' : f_X7_goes q (nI mx) 4 0 = some (upd (upd q (1 + mx) (nI 4)) (61 + mx) (nI 0)) := g1
          simp only [g1', g2, zob1]
          have g3 : ∀ w x, aset 986 w (121 + nI mn) x = some (upd w (121 + mn) x) := fun w x => by simp (disch := omega) only [zpl1, zpl2, zpl3, zob1, zob2, zob3, zlt, zeq, znn, zn9, zat, zput, zaddc, zag, zas, zl2, zl3, zl4, zl5, zl7, zl8, zl10, zl11, zl12, zl16, zl20, zl22, zl23, zl31, zl32, zl60, zl64, zl80, zl100, zl121, zl181, zl241, zl249, zl261, zl273, zl285, zl297, zl309, zl321, zl322, zl323, zl324, zl325, zl326, zl327, zl500, zl61, zl328, zl329, zl657, zl986, nI_1, z1I, zadd, if_true, if_false]
          simp only [g3, zob1]
          have eput : f_X2_put 60 c.2.1 (nI mn) (nI (W x / 4)) = upd c.2.1 mn (nI (W x / 4)) := zput (by omega) (by omega)
          rw [show (23 : Int32) = nI 23 from rfl, eput]
          generalize hw : upd (upd (upd (upd (upd q (1 + mx) (nI 4)) (61 + mx) (nI 0)) (1 + mn) 0) (61 + mn) (nI s)) (121 + mn) (nI (W x / 4)) = w at N2 ⊢
          have hwq : ∀ i, 181 ≤ i → w i = q i := fun i hi => by
            rw [← hw, zun (by omega), zun (by omega), zun (by omega), zun (by omega), zun (by omega)]
          unfold f_X7_spends
          have s1 : aget 986 w 321 = some c.2.2.2.2.2.2.2.2.2.2.2.1 := by
            rw [show aget 986 w 321 = some (w 321) from rfl, hwq _ (by omega), aG.2.2.2.1]
          have s2 : ∀ x, aget 986 (upd w 321 x) 323 = some c.2.2.2.2.2.2.2.2.2.2.2.2.1 := fun x => by
            rw [show aget 986 (upd w 321 x) 323 = some (upd w 321 x 323) from rfl, zun (by omega), hwq _ (by omega), aG.2.2.2.2.1]
          have s3 : ∀ w x, aset 986 w 321 x = some (upd w 321 x) := fun _ _ => rfl
          have s4 : ∀ w x, aset 986 w 323 x = some (upd w 323 x) := fun _ _ => rfl
          simp only [s1, s2, s3, s4, zob1]
          refine ⟨nI mn, _, upd (upd w 321 (c.2.2.2.2.2.2.2.2.2.2.2.1 - 3)) 323 (c.2.2.2.2.2.2.2.2.2.2.2.2.1 + 3), ?_, fun i hi => ?_, fun _ _ _ _ _ _ _ => rfl, fun sv st sv' st' hs => by rw [show f_X7_save Z q sv st = _ from hs, zob2]⟩
          · refine ⟨n, _, _, H, T, C, P, O, h, r, hh, M2, N2.fr (fun i hi => ?_), aL.fr hn (fun i hi _ => ?_), R2.fr (fun i hi _ => ?_), ?_⟩
            · rw [zun (by omega), zun (by omega)]
            · rw [zun (by omega), zun (by omega)]; exact hwq i hi
            · rw [zun (by omega), zun (by omega)]; exact hwq i (by omega)
            · obtain ⟨g0, g1, g2, g3, g4, g5, g6, g7, g8, g9, g10, g11⟩ := aG
              refine ⟨fun i hi => ?_, g1, ?_, ?_, ?_, ?_, ?_, ?_, g8, ?_, g10, g11⟩
              · rw [zun (by omega), zun (by omega), hwq _ (by omega)]; exact g0 i hi
              · rw [zun (by omega), zun (by omega), hwq _ (by omega)]; exact g2
              · rw [zun (by omega), zus rfl]
              · rw [zus rfl]
              · rw [zun (by omega), zun (by omega), hwq _ (by omega)]; exact g5
              · rw [zun (by omega), zun (by omega), hwq _ (by omega)]; exact g6
              · rw [zun (by omega), zun (by omega), hwq _ (by omega)]; exact g7
              · rw [zun (by omega), zun (by omega), hwq _ (by omega)]; exact g9
          · rw [zun (by omega), zun (by omega), hwq _ (by omega)]
        · simp only [hD, if_false]
          exact zErr (-3) (fun _ _ _ _ _ _ _ => by (rw [zob1, if_neg (by decide)]; first | done | rfl)) (fun _ _ => rfl)
  · simp only [e1, e2, if_true, if_false, z10]
    exact zErr (-1) (fun _ _ _ _ _ _ _ => by (rw [zob1, if_neg (by decide)]; first | done | rfl)) (fun _ _ => rfl)
