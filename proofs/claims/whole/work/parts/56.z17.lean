section sg
variable {n : Nat} {S W : Nat → Nat} {H : Nat → Option Nat} {T C P O : Nat → Nat} {h r : Nat} {sp we le ta : Nat → Int32} {num : Int32} {rooms pu sh ho pa : Nat → Int32} {hours house spent loans surges rate : Int32} {q w : Nat → Int32}
theorem zw_none {s : Nat} : zbest S W s n = none ↔ zw S W s n = 0 := by
  unfold zbest
  rw [zam_none]
  constructor
  · intro a; exact zsm_none (fun i hi => by unfold zid; rw [if_neg (a i hi)])
  · intro a i hi e
    have : 0 < zw S W s n := zsm_pos.2 ⟨i, hi, by simp [zid, e]⟩
    omega
theorem zw_up {s u t : Nat} (hu : u < n) (hW : W u < 32) : zw (zup S u t) W s n + zid (S u = s) = zw S W s n + zid (t = s) := by
  have := zsm_upd (f := fun v => zid (S v = s ∧ W v < 32)) (g := fun v => zid (zup S u t v = s ∧ W v < 32)) (n := n) (k := u) hu (fun i _ hne => by simp only [zup_n hne])
  simp only [zup_s, hW, and_true] at this
  exact this
theorem zwb (s : Nat) : zc S s n - zb S W s n = zw S W s n := by
  have : zw S W s n + zb S W s n = zc S s n := by
    unfold zw zb zc
    rw [← zsm_add]
    refine zsm_congr (fun u _ => ?_)
    unfold zid
    rcases Nat.lt_or_ge (W u) 32 with c | c
    · by_cases d : S u = s <;> simp [c, d, Nat.not_le.mpr c]
    · by_cases d : S u = s <;> simp [c, d, Nat.not_lt.mpr c]
  omega
theorem zSurge {Z : Nat} (hZ : 100 < Z) (S0 C0 : Nat → Nat) (H0 : Nat → Option Nat) : ∀ k i F S H C sp le ta pu house loans q, 12 - i = k → i ≤ 12 → 12 - i < F → zCT n S W H T C P O h r sp we le ta num rooms pu sh ho pa hours house spent loans surges rate q → (∀ s, s < 8 → zw S W s n = zw S0 W s n - zwant H0 C0 O s i) → (∀ k, i ≤ k → k < 12 → H k = H0 k ∧ C k = C0 k) → ∃ S' H' C' sp' le' ta' pu' house' loans' q', f_X0_surge_L12 Z we num ho F (nI i) house loans sp le ta pu = some (house', loans', sp', le', ta', pu') ∧ f_X7_passes_L199 Z F (nI i) q = some q' ∧ zCT n S' W H' T C' P O h r sp' we le' ta' num rooms pu' sh ho pa hours house' spent loans' surges rate q' ∧ (∀ j, 328 ≤ j → q' j = q j) ∧ (∀ s, s < 8 → zw S' W s n = zw S0 W s n - zwant H0 C0 O s 12) := by
  intro k
  induction k with
  | zero =>
    intro i F S H C sp le ta pu house loans q hk hi hF a ht hs
    obtain ⟨F, rfl⟩ : ∃ G, F = G + 1 := ⟨F - 1, by omega⟩
    have : i = 12 := by omega
    subst this
    exact ⟨S, H, C, sp, le, ta, pu, house, loans, q, by rw [f_X0_surge_L12, if_neg (by decide)], by rw [f_X7_passes_L199, if_neg (by decide)], a, fun _ _ => rfl, ht⟩
  | succ k ih =>
    intro i F S H C sp le ta pu house loans q hk hi hF a ht hs
    obtain ⟨F, rfl⟩ : ∃ G, F = G + 1 := ⟨F - 1, by omega⟩
    have hi12 : i < 12 := by omega
    have aC := a.1
    have aM := a.2.1
    have aP := a.2.2.2.1
    have hn := aC.1
    have hO := aP.2.2.2.2.2 i hi12
    have hsi := hs i (by omega) hi12
    have q1 : f_X5_bestAt Z sp we num (nI (O i)) = some (zev (-9) (zbest S W (O i) n)) := zBest aC hZ (by omega)
    have q2 : f_X7_bestOf Z q (nI (O i)) = some (zev (-1) (zbest S W (O i) n)) := zBestM aM hZ hO.2.2
    have q3 := zWould aC aP hi12
    have q4 := zCanB aP hi12 hn
    have hwn : ∀ s, zwant H0 C0 O s (i + 1) = zwant H0 C0 O s i + zid (O i = s ∧ H0 i = none ∧ 10 ≤ C0 i) := fun s => rfl
    rw [← hsi.1, ← hsi.2] at hwn
    rw [f_X0_surge_L12, f_X7_passes_L199]
    simp (disch := omega) only [zpl1, zpl2, zpl3, zob1, zob2, zob3, zlt, zeq, znn, zn9, zat, zput, zaddc, zag, zas, zl2, zl3, zl4, zl5, zl7, zl8, zl10, zl11, zl12, zl16, zl20, zl22, zl23, zl31, zl32, zl60, zl64, zl80, zl100, zl121, zl181, zl241, zl249, zl261, zl273, zl285, zl297, zl309, zl321, zl322, zl323, zl324, zl325, zl326, zl327, zl500, zl61, zl328, zl329, zl657, zl986, nI_1, z1I, zadd, if_true, if_false, hi12, hO.1, hO.2.1, q1, q2, q3, q4]
    cases hb : zbest S W (O i) n with
    | none =>
      have hz := zw_none.1 hb
      simp only [zev, if_true, show ((-1 : Int32) < 0) = True by simp]
      have hm : (if (if H i = none ∧ 10 ≤ C i then (1 : Int32) else 0) = 0 then some q else some q) = some q := by split <;> rfl
      rw [hm, zob1, zpl6]
      refine ih (i + 1) F S H C sp le ta pu house loans q (by omega) (by omega) (by omega) a (fun s h8 => ?_) (fun k h1 h2 => hs k (by omega) h2)
      rw [hwn]
      have := ht s h8
      by_cases e : O i = s
      · subst e; rw [hz] at this ⊢; omega
      · have : zid (O i = s ∧ H i = none ∧ 10 ≤ C i) = 0 := by unfold zid; rw [if_neg (fun x => e x.1)]
        omega
    | some u =>
      have hu := zam_ok hb
      have hun := hu.1
      simp only [zev]
      simp (disch := omega) only [zpl1, zpl2, zpl3, zob1, zob2, zob3, zlt, zeq, znn, zn9, zat, zput, zaddc, zag, zas, zl2, zl3, zl4, zl5, zl7, zl8, zl10, zl11, zl12, zl16, zl20, zl22, zl23, zl31, zl32, zl60, zl64, zl80, zl100, zl121, zl181, zl241, zl249, zl261, zl273, zl285, zl297, zl309, zl321, zl322, zl323, zl324, zl325, zl326, zl327, zl500, zl61, zl328, zl329, zl657, zl986, nI_1, z1I, zadd, if_true, if_false]
      by_cases hc : H i = none ∧ 10 ≤ C i
      · obtain ⟨b1, b2, b3, b4, b5, b6, b7⟩ := zBor a (Z := Z) (k := i) (s := O i) (u := u) hZ hi12 hc.1 hc.2 hO.2.2 hb
        simp only [hc, and_self, if_true, z10, if_false, b1, b2, zpl6, zob2, zob1]
        obtain ⟨S', H', C', sp', le', ta', pu', house', loans', q', l1, l2, l3, l4, l5⟩ := ih (i + 1) F _ _ _ _ _ _ _ _ _ _ (by omega) (by omega) (by omega) b3 (fun s h8 => by
          rw [hwn]
          have h1 := ht s h8
          have h2 := zw_up (S := S) (s := s) (t := 8 + i) hun b7
          have e1 : zid (8 + i = s) = 0 := by unfold zid; rw [if_neg (by omega)]
          by_cases e : O i = s
          · have e2 : zid (S u = s) = 1 := by unfold zid; rw [if_pos (by rw [b6, e])]
            have e3 : zid (O i = s ∧ H i = none ∧ 10 ≤ C i) = 1 := by unfold zid; rw [if_pos ⟨e, hc⟩]
            omega
          · have e2 : zid (S u = s) = 0 := by unfold zid; rw [if_neg (by rw [b6]; exact e)]
            have e3 : zid (O i = s ∧ H i = none ∧ 10 ≤ C i) = 0 := by unfold zid; rw [if_neg (fun x => e x.1)]
            omega) (fun k h1 h2 => by
          rw [zuH_n (by omega), zup_n (by omega)]; exact hs k (by omega) h2)
        exact ⟨S', H', C', sp', le', ta', pu', house', loans', q', l1, l2, l3, fun j hj => by rw [l4 j hj, b4 j hj], l5⟩
      · simp only [hc, if_false, if_true, zpl6, zob1]
        refine ih (i + 1) F S H C sp le ta pu house loans q (by omega) (by omega) (by omega) a (fun s h8 => ?_) (fun k h1 h2 => hs k (by omega) h2)
        rw [hwn]
        have := ht s h8
        have : zid (O i = s ∧ H i = none ∧ 10 ≤ C i) = 0 := by unfold zid; rw [if_neg (fun x => hc x.2)]
        omega
theorem zPass (a : zCT n S W H T C P O h r sp we le ta num rooms pu sh ho pa hours house spent loans surges rate q) (hh : h ≤ 500) {Z rn gs : Nat} (hZ : 100 < Z) (hr : rn ≤ 9) (hg : gs ≤ 3) : ∃ b sp' we' le' ta' pu' sh' house' loans' surges' q', f_X0_passHour Z sp we le ta num pu sh ho hours house loans surges (nI rn) (nI gs) = some (b, sp', we', le', ta', pu', sh', hours + 1, house', loans', surges') ∧ f_X7_passes Z q (nI rn) (nI gs) = some (b, q') ∧ ¬ b < 0 ∧ (∃ S' W' H' T' C', zCT n S' W' H' T' C' P O (h + 1) r sp' we' le' ta' num rooms pu' sh' ho pa (hours + 1) house' spent loans' surges' rate q' ∧ (5 ≤ rn → ∀ s, s < 8 → zw S' W' s n = zw S W s n - zwant H C O s 12)) ∧ (∀ j, 328 ≤ j → q' j = q j) := by
  obtain ⟨aC, aM, aL, aP, aG⟩ := a
  have hn := aC.1
  have hbc : zsm (fun u => if zhd (S u) then zbr W rn gs u else 0) n = zsm (fun k => zbrH W rn gs (H k)) 12 := by
    rw [zSumH aP]
    refine zsm_congr (fun k _ => ?_)
    cases H k <;> rfl
  have hbl : zsm (fun k => zbrH W rn gs (H k)) 12 ≤ 12 * 1 := zsm_le (fun k _ => by
    cases hHk : H k with
    | none => simp [zbrH]
    | some u => exact zid_le _)
  -- wear and showers
  obtain ⟨w, m1, p1, p2, p3, p4⟩ := zPsL (n := n) (S := S) (W := W) (H := H) (T := T) (q := upd q 322 (nI (h + 1))) hn aC.2.2.2.1 aP.1 (fun k hk => by rw [zun (by omega)]; exact aP.2.1 k hk) (fun k hk => by have := (aP.2.2.1 k hk).2.2.1; omega) hr hg 12 0 Z (upd q 322 (nI (h + 1))) rfl (by omega) (by omega) (by
    refine ⟨fun u hu => ?_, fun k hk => ?_, fun k hk => ?_, fun j _ => rfl⟩
    · rw [zun (by omega), if_neg (by omega)]; exact aM.2.2.2.2.2.2 u hu
    · rw [zun (by omega), if_neg (by omega)]; exact (aP.2.2.1 k hk).2.1
    · rw [zun (by omega), if_neg (by omega)]; exact aP.2.2.2.1 k hk)
  have m1' : f_X7_passes_L17 (nI rn) (nI gs) Z 0 0 (upd q 322 (nI (h + 1))) = some (nI (zsm (fun k => zbrH W rn gs (H k)) 12), w) := m1
  let W1 := zW1 S W n rn gs
  let T1 := zT1 H T rn
  let we1 : Nat → Int32 := fun v => if v < n ∧ zhd (S v) then nI (zwo (W v) rn gs) else we v
  have hsh : ∃ sh1 : Nat → Int32, (ob1 (if nI rn < 2 then some sh else ob1 (f_X0_countShower Z ta sh) (fun m38 => some m38)) (fun w4 => some w4)) = some sh1 ∧ (if nI rn < 2 then some sh else ob1 (f_X0_countShower Z ta sh) (fun m38 => some m38)) = some sh1 ∧ ∀ k, k < 12 → sh1 k = nI (T1 k) := by
    have e2 : (nI rn < 2) = (rn < 2) := zlt (b := 2) (by omega) (by omega)
    by_cases c : rn < 2
    · refine ⟨sh, by simp only [e2, c, if_true, zob1], by simp only [e2, c, if_true], fun k hk => ?_⟩
      rw [(aP.2.2.1 k hk).1]
      show _ = nI (if H k ≠ none ∧ 2 ≤ rn then T k + 1 else T k)
      rw [if_neg (fun x => by omega)]
    · refine ⟨fun j => if j < 12 ∧ H j ≠ none then sh j + 1 else sh j, by simp only [e2, c, if_false, zCnt aC aP hZ, zob1], by simp only [e2, c, if_false, zCnt aC aP hZ, zob1], fun k hk => ?_⟩
      show (if k < 12 ∧ H k ≠ none then sh k + 1 else sh k) = nI (if H k ≠ none ∧ 2 ≤ rn then T k + 1 else T k)
      rw [(aP.2.2.1 k hk).1]
      by_cases d : H k = none
      · simp [d]
      · rw [if_pos ⟨hk, d⟩, if_pos ⟨d, by omega⟩, nI_1]
  obtain ⟨sh1, -, hs1, hs2⟩ := hsh
  have bC : zRC n S W1 sp we1 ta num := by
    obtain ⟨h0, h1, h2, h3, h4, h5, h6, h7⟩ := aC
    refine ⟨h0, h1, h2, fun u => ?_, fun u hu => ?_, h5, fun u hu => ?_, h7⟩
    · show (if u < n ∧ zhd (S u) then zwo (W u) rn gs else W u) ≤ 64
      split
      · exact zwo_le _ _ _
      · exact h3 u
    · show (if u < n ∧ zhd (S u) then zwo (W u) rn gs else W u) = 0
      rw [if_neg (fun x => by omega)]; exact h4 u hu
    · show (if u < n ∧ zhd (S u) then nI (zwo (W u) rn gs) else we u) = nI (if u < n ∧ zhd (S u) then zwo (W u) rn gs else W u)
      rw [h6 u hu, zite]
  have bM : zRM n S W1 w := by
    obtain ⟨h0, h1, h2, h3, h4, h5, h6⟩ := aM
    refine ⟨h0, ?_, h2, bC.2.2.2.1, fun u hu => ?_, fun u hu hs => ?_, fun u hu => ?_⟩
    · rw [p4 _ (by omega), zun (by omega)]; exact h1
    · rw [p4 _ (by omega), zun (by omega)]; exact h4 u hu
    · rw [p4 _ (by omega), zun (by omega)]; exact h5 u hu hs
    · rw [p1 u hu]
      show _ = nI (if u < n ∧ zhd (S u) then zwo (W u) rn gs else W u)
      by_cases e : 8 ≤ S u ∧ S u < 20
      · rw [if_pos (show 8 ≤ S u ∧ S u < 8 + 12 by omega), if_pos (show u < n ∧ zhd (S u) from ⟨hu, e⟩)]
      · rw [if_neg (show ¬ (8 ≤ S u ∧ S u < 8 + 12) by omega), if_neg (show ¬ (u < n ∧ zhd (S u)) from fun x => e x.2)]
  have bL : zRL n le w := aL.fr hn (fun i h1 h2 => by rw [p4 _ (by omega), zun (by omega)])
  have bP : zRP n S W1 H T1 C P O (h + 1) pu sh1 ho pa w := by
    obtain ⟨h0, h1, h2, h3, h4, h5⟩ := aP
    refine ⟨h0, fun k hk => ?_, fun k hk => ?_, fun k hk => ?_, fun k hk => ?_, fun k hk => ?_⟩
    · rw [p4 _ (by omega), zun (by omega)]; exact h1 k hk
    · have hT := h2 k hk
      refine ⟨hs2 k hk, by rw [p2 k hk, if_pos hk], ?_, fun e => ?_⟩
      · show (if H k ≠ none ∧ 2 ≤ rn then T k + 1 else T k) ≤ h + 1
        split <;> omega
      · show (if H k ≠ none ∧ 2 ≤ rn then T k + 1 else T k) = 0
        rw [if_neg (fun x => x.1 e)]; exact hT.2.2.2 e
    · rw [p3 k hk, if_pos hk]
    · rw [p4 _ (by omega), zun (by omega), p4 _ (by omega), zun (by omega)]; exact h4 k hk
    · rw [p4 _ (by omega), zun (by omega)]; exact h5 k hk
  have e322 : aget 986 q 322 = some (nI h) := by rw [show aget 986 q 322 = some (q 322) from rfl, aG.2.2.1]
  have a322 : ∀ x, aset 986 q 322 x = some (upd q 322 x) := fun _ => rfl
  have hwsame : ∀ s, s < 8 → zw S W1 s n = zw S W s n := fun s hs => zsm_congr (fun u hu => by
    show zid (S u = s ∧ (if u < n ∧ zhd (S u) then zwo (W u) rn gs else W u) < 32) = _
    by_cases e : S u = s
    · rw [if_neg (fun x => by have := x.2.1; omega)]
    · unfold zid; rw [if_neg (fun x => e x.1), if_neg (fun x => e x.1)])
  obtain ⟨g0, g1, g2, g3, g4, g5, g6, g7, g8, g9, g10, g11⟩ := aG
  have e5 : (nI rn < 5) = (rn < 5) := zlt (b := 5) (by omega) (by omega)
  unfold f_X0_passHour f_X7_passes
  rw [hs1, e322, zob1, zob1, nI_1, a322, zob1, m1', zob2, zWdn aC hZ hr hg, zob2, hbc]
  by_cases c : rn < 5
  · simp only [e5, c, if_true, zob7, zob1]
    refine ⟨_, _, _, _, _, _, _, _, _, _, _, rfl, rfl, by rw [znn (by omega)]; simp, ⟨S, W1, H, T1, C, ⟨bC, bM, bL, bP, ?_⟩, fun x => by omega⟩, fun j hj => ?_⟩
    · refine ⟨fun i hi => ?_, by rw [g1, nI_1], ?_, ?_, ?_, ?_, ?_, ?_, g8, ?_, g10, by omega⟩
      · rw [p4 _ (by omega), zun (by omega)]; exact g0 i hi
      · rw [p4 _ (by omega), zus (by omega)]
      all_goals (rw [p4 _ (by omega), zun (by omega)]; assumption)
    · rw [p4 _ (by omega), zun (by omega)]
  · simp only [e5, c, if_false]
    have e326 : aget 986 w 326 = some surges := by
      rw [show aget 986 w 326 = some (w 326) from rfl, p4 _ (by omega), zun (by omega), g7]
    have a326 : ∀ x, aset 986 w 326 x = some (upd w 326 x) := fun _ => rfl
    obtain ⟨S', H', C', sp', le', ta', pu', house', loans', q', l1, l2, l3, l4, l5⟩ := zSurge (n := n) (W := W1) (T := T1) (P := P) (O := O) (h := h + 1) (r := r) (we := we1) (num := num) (rooms := rooms) (sh := sh1) (ho := ho) (pa := pa) (hours := hours + 1) (spent := spent) (surges := surges + 1) (rate := rate) hZ S C H 12 0 Z S H C sp le ta pu house loans (upd w 326 (surges + 1)) rfl (by omega) (by omega) ⟨bC, bM.fr (fun i _ => zun (by omega)), bL.fr hn (fun i _ _ => zun (by omega)), bP.fr (fun i _ _ => zun (by omega)), by
      refine ⟨fun i hi => ?_, by rw [g1, nI_1], ?_, ?_, ?_, ?_, ?_, ?_, g8, ?_, g10, by omega⟩
      · rw [zun (by omega), p4 _ (by omega), zun (by omega)]; exact g0 i hi
      · rw [zun (by omega), p4 _ (by omega), zus (by omega)]
      · rw [zun (by omega), p4 _ (by omega), zun (by omega)]; assumption
      · rw [zun (by omega), p4 _ (by omega), zun (by omega)]; assumption
      · rw [zun (by omega), p4 _ (by omega), zun (by omega)]; assumption
      · rw [zun (by omega), p4 _ (by omega), zun (by omega)]; assumption
      · rw [zus rfl]
      · rw [zun (by omega), p4 _ (by omega), zun (by omega)]; assumption⟩ (fun s hs => rfl) (fun k _ _ => ⟨rfl, rfl⟩)
    have l1' : f_X0_surge_L12 Z we1 num ho Z 0 house loans sp le ta pu = some (house', loans', sp', le', ta', pu') := l1
    have l2' : f_X7_passes_L199 Z Z 0 (upd w 326 (surges + 1)) = some q' := l2
    unfold f_X0_surge
    rw [show f_X0_surge_L12 Z (fun v => if v < n ∧ zhd (S v) then nI (zwo (W v) rn gs) else we v) num ho Z 0 house loans sp le ta pu = some (house', loans', sp', le', ta', pu') from l1', zob6, zob7, zob7, e326, zob1, a326, zob1, l2', zob1, zob1]
    refine ⟨_, _, _, _, _, _, _, _, _, _, _, rfl, rfl, by rw [znn (by omega)]; simp, ⟨S', W1, H', T1, C', l3, fun _ s hs => by rw [l5 s hs, hwsame s hs]⟩, fun j hj => ?_⟩
    rw [l4 j hj, zun (by omega), p4 _ (by omega), zun (by omega)]
end sg
theorem zz_passR {Z : Nat} {c : CV} {q : Nat → Int32} (hZ : 5000 < Z) (a : zRT c q) (p1 p2 : Int32) : ∃ e, f_X0_passingError c.2.2.2.2.2.2.2.2.2.2.1 p1 p2 = e ∧ f_X7_whyHour q p1 p2 = some e ∧ (e = 0 ∨ e < 0) ∧ (e = 0 → ∃ r sp' we' le' ta' pu' sh' hours' house' loans' surges' q', f_X0_passHour Z c.1 c.2.1 c.2.2.1 c.2.2.2.1 c.2.2.2.2.1 c.2.2.2.2.2.2.1 c.2.2.2.2.2.2.2.1 c.2.2.2.2.2.2.2.2.1 c.2.2.2.2.2.2.2.2.2.2.1 c.2.2.2.2.2.2.2.2.2.2.2.1 c.2.2.2.2.2.2.2.2.2.2.2.2.2.1 c.2.2.2.2.2.2.2.2.2.2.2.2.2.2.1 p1 p2 = some (r, sp', we', le', ta', pu', sh', hours', house', loans', surges') ∧ f_X7_passes Z q p1 p2 = some (r, q') ∧ ¬ r < 0 ∧ zRT (sp', we', le', ta', c.2.2.2.2.1, c.2.2.2.2.2.1, pu', sh', c.2.2.2.2.2.2.2.2.1, c.2.2.2.2.2.2.2.2.2.1, hours', house', c.2.2.2.2.2.2.2.2.2.2.2.2.1, loans', surges', c.2.2.2.2.2.2.2.2.2.2.2.2.2.2.2) q' ∧ ∀ i, 328 ≤ i → q' i = q i) := by
  obtain ⟨n, S, W, H, T, C, P, O, h, r, hh, a⟩ := a
  have aG := a.2.2.2.2
  unfold f_X0_passingError f_X7_whyHour
  rcases zr9 p1 with ⟨rn, hr, rfl, e1, e2⟩ | ⟨e1, e2⟩
  · rcases zr3 p2 with ⟨gs, hg, rfl, f1, f2⟩ | ⟨f1, f2⟩
    · simp only [e1, e2, f1, f2, if_true, if_false, z10]
      rw [show aget 986 q 322 = some (q 322) from rfl, zob1, aG.2.2.1, aG.2.1]
      have q1 : (nI h < 500) = (h < 500) := zlt (b := 500) (by omega) (by omega)
      have q2 : (nI h = 500) = (h = 500) := zeq (b := 500) (by omega) (by omega)
      simp only [q1, q2]
      by_cases c5 : h < 500
      · rw [if_pos c5, if_neg (by omega)]
        refine ⟨0, rfl, rfl, Or.inl rfl, fun _ => ?_⟩
        obtain ⟨b, sp', we', le', ta', pu', sh', house', loans', surges', q', b1, b2, b3, ⟨S', W', H', T', C', b4, -⟩, b5⟩ := zPass a hh (Z := Z) (rn := rn) (gs := gs) (by omega) hr hg
        rw [aG.2.1] at b1
        exact ⟨b, _, _, _, _, _, _, _, _, _, _, q', b1, b2, b3, ⟨n, S', W', H', T', C', P, O, h + 1, r, by omega, by rw [aG.2.1] at b4; exact b4⟩, b5⟩
      · rw [if_neg c5, if_pos (by omega)]
        exact ⟨-3, rfl, rfl, Or.inr (by decide), fun e => absurd e (by decide)⟩
    · simp only [e1, e2, f1, f2, if_true, if_false, z10]
      exact ⟨-1, rfl, rfl, Or.inr (by decide), fun e => absurd e (by decide)⟩
  · simp only [e1, e2, if_true, if_false, z10]
    exact ⟨-1, rfl, rfl, Or.inr (by decide), fun e => absurd e (by decide)⟩
theorem zz_hour {Z : Nat} {c : CV} {q : Nat → Int32} (hZ : 5000 < Z) (a : zRT c q) (p1 p2 : Int32) : zOp Z c q (fun s0 s1 k0 k1 g nx sz => f_X6_hour Z c s0 s1 k0 k1 g nx sz p1 p2) (fun sv st => f_X7_hour Z q sv st p1 p2) := by
  obtain ⟨e, h1, h2, h3, h4⟩ := zz_passR hZ a p1 p2
  unfold f_X6_hour f_X7_hour
  simp only [h1, h2, zob1]
  rcases h3 with rfl | h3
  · obtain ⟨r, sp', we', le', ta', pu', sh', hours', house', loans', surges', q', l1, l2, l3, l4, l5⟩ := h4 rfl
    right
    simp only [l1, l2, if_true, zob11, zob2, show ((0 : Int32) < 0) = False by simp, if_false]
    exact ⟨r, _, q', l4, l5, fun _ _ _ _ _ _ _ => rfl, fun sv st sv' st' hs => by rw [show f_X7_save Z q sv st = _ from hs, zob2]⟩
  · have h0 : ¬ e = 0 := fun x => by rw [x] at h3; exact absurd h3 (by decide)
    simp only [h0, h3, if_true, if_false]
    exact zErr e (fun _ _ _ _ _ _ _ => rfl) (fun _ _ => rfl)
