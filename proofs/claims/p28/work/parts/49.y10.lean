def zuH (H : Nat → Option Nat) (k : Nat) (x : Option Nat) : Nat → Option Nat := fun v => if v = k then x else H v
theorem zuH_s {H : Nat → Option Nat} {k v : Nat} {x : Option Nat} (h : v = k) : zuH H k x v = x := by unfold zuH; rw [if_pos h]
theorem zuH_n {H : Nat → Option Nat} {k v : Nat} {x : Option Nat} (h : v ≠ k) : zuH H k x v = H v := by unfold zuH; rw [if_neg h]
theorem zm10 {x : Nat} (h : 10 ≤ x) : nI x + -10 = nI (x - 10) := by
  obtain ⟨y, rfl⟩ : ∃ y, x = y + 10 := ⟨x - 10, by omega⟩
  rw [show y + 10 - 10 = y by omega, ← nI_add, Int32.add_assoc, show nI 10 + -10 = 0 from rfl, Int32.add_zero]
theorem zk_up {n : Nat} {S : Nat → Nat} {u t p : Nat} (hu : u < n) : zk (zup S u t) p n + zid (zpl (S u) = p) = zk S p n + zid (zpl t = p) := by
  have := zsm_upd (f := fun v => zid (zpl (S v) = p)) (g := fun v => zid (zpl (zup S u t v) = p)) (n := n) (k := u) hu (fun i _ hne => by simp only [zup_n hne])
  simp only [zup_s] at this
  exact this
theorem zsm_zup {n : Nat} {Y : Nat → Nat} {u x : Nat} (hu : u < n) : zsm (zup Y u x) n + Y u = zsm Y n + x := by
  have := zsm_upd (f := Y) (g := zup Y u x) (n := n) (k := u) hu (fun i _ hne => zup_n hne)
  rw [zup_s rfl] at this; exact this
theorem yz0 {s : Nat} (h : s < 8) : zpl s = 0 := by unfold zpl; rw [if_pos h]
theorem yz1 {k : Nat} (h : k < 12) : zpl (8 + k) = 1 := by unfold zpl; rw [if_neg (by omega), if_pos (by omega)]
theorem yz2 {v : Nat} (h : v < 2) : zpl (20 + v) = 2 := by unfold zpl; rw [if_neg (by omega), if_neg (by omega), if_pos (by omega)]
section op
variable {v : OV} {n : Nat} {S W : Nat → Nat} {H : Nat → Option Nat} {T C P O R Y : Nat → Nat} {h r hs sn : Nat} {Z : Nat} {sp we le ta : Nat → Int32} {num : Int32} {rooms pu sh ho pa : Nat → Int32} {hours house spent loans rate : Int32}
theorem yBor (a : yD n S W H T C P O R Y h r hs sn sp we le ta num rooms pu sh ho pa hours house spent loans rate) {k s u : Nat} (hk : k < 12) (hH : H k = none) (hC : 10 ≤ C k) (hs' : s < 8) (hb : zbest S W s n = some u) :
    f_X0_handOut sp le ta pu house loans (nI k) (nI u) = ((f_X5_move sp ta (nI u) (nI (8 + k))).1, upd le u (le u + 1), (f_X5_move sp ta (nI u) (nI (8 + k))).2, upd pu k (nI (C k - 10)), house + 10, loans + 1) ∧
    yD n (zup S u (8 + k)) W (zuH H k (some u)) T (zup C k (C k - 10)) P O R (zup Y u (Y u + 1)) h r (hs + 10) sn (f_X5_move sp ta (nI u) (nI (8 + k))).1 we (upd le u (le u + 1)) (f_X5_move sp ta (nI u) (nI (8 + k))).2 num rooms (upd pu k (nI (C k - 10))) sh ho pa hours (house + 10) spent (loans + 1) rate ∧ u < n ∧ S u = s ∧ W u < 32 := by
  obtain ⟨aC, aP, aG⟩ := a
  have hu := zam_ok hb
  have hSu : S u = s := hu.2.1
  have hWu : W u < 32 := hu.2.2
  have hun := hu.1
  have hn := aC.1
  have hCk := aP.2.2.1 k hk
  refine ⟨?_, ⟨zMv aC hun (by omega), ?_, ?_⟩, hun, hSu, hWu⟩
  · unfold f_X0_handOut
    have e8 : (8 : Int32) + nI k = nI (8 + k) := zadd 8 k
    rw [e8, zaddc (by omega) (by omega), zaddc (by omega) (by omega), hCk.1, zm10 hC]
    rfl
  · refine ⟨fun j hj v => ?_, fun j hj => ?_, fun j hj => ?_, aP.2.2.2⟩
    · by_cases e : j = k
      · subst e
        rw [zuH_s rfl]
        constructor
        · intro e; cases e; exact ⟨hun, zup_s rfl⟩
        · rintro ⟨x, y⟩
          by_cases e2 : v = u
          · rw [e2]
          · rw [zup_n e2] at y
            have := (aP.1 j hj v).2 ⟨x, y⟩
            rw [hH] at this; cases this
      · rw [zuH_n e, aP.1 j hj v]
        by_cases e2 : v = u
        · subst e2
          rw [zup_s rfl]
          constructor
          · rintro ⟨x, y⟩; omega
          · rintro ⟨x, y⟩; omega
        · rw [zup_n e2]
    · have hT := aP.2.1 j hj
      refine ⟨hT.1, hT.2.1, fun e0 => ?_⟩
      by_cases e : j = k
      · rw [zuH_s e] at e0; cases e0
      · rw [zuH_n e] at e0; exact hT.2.2 e0
    · have h4 := aP.2.2.1 j hj
      by_cases e : j = k
      · subst e
        rw [zuH_s rfl, zup_s rfl, zus rfl]
        rw [hH] at h4
        simp only [if_true] at h4
        refine ⟨rfl, h4.2.1, ?_⟩
        rw [if_neg (by simp)]; omega
      · rw [zuH_n e, zup_n e, zun e]; exact h4
  · obtain ⟨g0, g1, g2, g3, g4, g5, g6, g7, g8, g9, g10, g11, g12⟩ := aG
    have hk1 := zk_up (S := S) (u := u) (t := 8 + k) (p := 1) hun
    have z1 : zid (zpl (S u) = 1) = 0 := by unfold zid; rw [hSu, yz0 hs', if_neg (by decide)]
    have z2 : zid (zpl (8 + k) = 1) = 1 := by unfold zid; rw [yz1 hk, if_pos rfl]
    have hy := zsm_zup (Y := Y) (u := u) (x := Y u + 1) hun
    refine ⟨fun t ht => ?_, g1, ?_, g3, g4, g5, g6, by omega, by omega, fun w hw => ?_, fun w hw => ?_, ?_, fun w hw hS2 => ?_⟩
    · have := g0 t ht
      have hz := zc_up (S := S) (u := u) (t := 8 + k) (s := t) hun
      have z3 : zid (8 + k = t) = 0 := by unfold zid; rw [if_neg (by omega)]
      exact ⟨this.1, this.2.1, by omega⟩
    · rw [g2]; exact nI_add hs 10
    · by_cases e : w = u
      · subst e; rw [zus rfl, zup_s rfl, g9 w hw, nI_1]
      · rw [zun e, zup_n e]; exact g9 w hw
    · rw [zup_n (by omega)]; exact g10 w hw
    · rw [g11, nI_1]; congr 1; omega
    · by_cases e : w = u
      · subst e; rw [zup_s rfl] at hS2; omega
      · rw [zup_n e] at hS2; exact g12 w hw hS2
theorem yBorrow (hZ : 5000 < Z) (ok : OK v) (a : yC n S W H T C P O R Y h r hs sn v.1) {k s : Nat} (hk : k < 12) (hs' : s < 8) :
    (¬ (H k = none ∧ 10 ≤ C k ∧ zbest S W s n ≠ none) ∧ m_borrow Z v (nI k) (nI s) = some (-2, v)) ∨
    ∃ u, H k = none ∧ 10 ≤ C k ∧ zbest S W s n = some u ∧ u < n ∧ ∃ c', m_borrow Z v (nI k) (nI s) = some (nI u, yW v c') ∧ yC n (zup S u (8 + k)) W (zuH H k (some u)) T (zup C k (C k - 10)) P O R (zup Y u (Y u + 1)) h r (hs + 10) sn c' := by
  have aC := a.1
  have hn := aC.1
  have e1 : f_X6_outside (nI k) 0 11 = 0 := youtI (m := 11) (M := 11) rfl (by decide) (by omega)
  have f1 : f_X6_outside (nI s) 0 7 = 0 := youtI (m := 7) (M := 7) rfl (by decide) (by omega)
  unfold m_borrow
  rw [gO_in ok]
  unfold f_X6_borrow f_X0_lendingError
  simp only [e1, f1, zWould aC a.2.1 hk, zBest aC (Z := Z) (s := s) (by omega) (by omega), zob1, if_true]
  by_cases hw : H k = none ∧ 10 ≤ C k
  · simp only [hw, and_self, if_true, z10, if_false]
    cases hb : zbest S W s n with
    | none =>
      left
      refine ⟨fun q => by simp at q, ?_⟩
      have e9 : (zev (-9) none = (-9 : Int32)) = True := eq_true rfl
      simp only [e9, if_true, zob1]
      rw [if_neg (by decide)]; rfl
    | some u =>
      right
      obtain ⟨b1, b2, b3, b4, b5⟩ := yBor a (k := k) (s := s) (u := u) hk hw.1 hw.2 hs' hb
      have eb : zev (-9) (some u) = nI u := rfl
      have e9 : (nI u = (-9 : Int32)) = False := zn9 (by omega)
      refine ⟨u, trivial, trivial, rfl, b3, ?_⟩
      simp only [eb, e9, if_false, z10, zob1, if_true]
      unfold f_X0_lend
      simp only [zBest aC (Z := Z) (s := s) (by omega) (by omega), hb, zob1, eb, b1]
      exact ⟨_, rfl, b2⟩
  · left
    refine ⟨fun q => hw ⟨q.1, q.2.1⟩, ?_⟩
    simp only [hw, if_false, if_true, zob1]
    rw [if_neg (by decide)]; rfl
theorem yBring (hZ : 5000 < Z) (ok : OK v) (a : yC n S W H T C P O R Y h r hs sn v.1) {k s : Nat} (hk : k < 12) (hs' : s < 8) :
    (H k = none ∧ m_bringBack Z v (nI k) (nI s) = some (-2, v)) ∨
    ∃ u, H k = some u ∧ u < n ∧ ((R s ≤ zc S s n ∧ m_bringBack Z v (nI k) (nI s) = some (-3, v)) ∨
      (zc S s n < R s ∧ ∃ f c', f = zfee r (T k) (W u) ∧ f ≤ 10 ∧ 10 ≤ hs ∧ m_bringBack Z v (nI k) (nI s) = some (nI f, yW v c') ∧ yC n (zup S u s) W (zuH H k none) (zup T k 0) (zup C k (C k + (10 - f))) (zup P k (P k + f)) (zup O k s) R Y h r (hs - (10 - f)) sn c')) := by
  obtain ⟨aC, aP, aG⟩ := id a
  have hn := aC.1
  have e1 : f_X6_outside (nI k) 0 11 = 0 := youtI (m := 11) (M := 11) rfl (by decide) (by omega)
  have f1 : f_X6_outside (nI s) 0 7 = 0 := youtI (m := 7) (M := 7) rfl (by decide) (by omega)
  have hR := aG.1 s hs'
  have hcl := zc_le S s n
  have hfr : f_X2_at 8 v.1.2.2.2.2.2.1 (nI s) - f_X5_numberAt v.1.2.2.2.1 (nI s) = nI (R s - zc S s n) := by
    rw [zat (by omega) (by omega), zNum aC (by omega), hR.1, zsub hR.2.2]
  have k1 : (0 < nI (R s - zc S s n)) = (zc S s n < R s) := by
    rw [show (0 : Int32) = nI 0 from rfl, zlt (by omega) (by omega)]; apply propext; omega
  unfold m_bringBack
  rw [gO_in ok]
  unfold f_X6_bringBack f_X0_returningError f_X0_freeAt
  simp only [e1, f1, zHas aC aP hk, hfr, k1, if_true]
  cases hH : H k with
  | none =>
    left
    refine ⟨rfl, ?_⟩
    rw [if_pos rfl, if_pos rfl, if_neg (by decide)]; rfl
  | some u =>
    right
    have hu := (aP.1 k hk u).1 hH
    have hun := hu.1
    have hSu := hu.2
    have en : ((some u : Option Nat) = none) = False := eq_false (by simp)
    refine ⟨u, rfl, hun, ?_⟩
    simp only [en, if_false, z10]
    by_cases hD : zc S s n < R s
    · right
      obtain ⟨g0, g1, g2, g3, g4, g5, g6, g7, g8, g9, g10, g11, g12⟩ := aG
      have hf := zfee_le r (T k) (W u)
      have hCk := aP.2.2.1 k hk
      have hTk := aP.2.1 k hk
      have hzkp : 0 < zk S 1 n := zsm_pos.2 ⟨u, hun, by unfold zid; rw [hSu, yz1 hk, if_pos rfl]; omega⟩
      have hmon : f_X0_feeAfter Z v.1.1 v.1.2.1 v.1.2.2.2.2.1 v.1.2.2.2.2.2.2.2.1 (nI r) (nI k) 0 0 = some (nI (zfee r (T k) (W u))) := zFee aC aP (Z := Z) (m := 0) (rn := 0) (by omega) hk hH g5 (by omega) (by omega) (by omega)
      refine ⟨hD, zfee r (T k) (W u), ?_⟩
      simp only [hD, if_true]
      unfold f_X0_takeBack
      rw [g4, hmon, zob1, zHand aC aP (by omega) hk, hH, zob1]
      simp only [zev]
      generalize zfee r (T k) (W u) = f at hf ⊢
      have e10 : (10 : Int32) - nI f = nI (10 - f) := zsub (a := 10) hf
      have ePa : nI (P k) + nI f = nI (P k + f) := zadd _ _
      have ePu : nI (C k) + nI (10 - f) = nI (C k + (10 - f)) := zadd _ _
      rw [e10, zaddc (by omega) (by omega), zaddc (by omega) (by omega), zput (by omega) (by omega), zput (by omega) (by omega), hCk.1, hCk.2.1, ePa, ePu]
      have hxx : f_X5_move v.1.1 v.1.2.2.2.1 (nI u) (nI s) = ((f_X5_move v.1.1 v.1.2.2.2.1 (nI u) (nI s)).1, (f_X5_move v.1.1 v.1.2.2.2.1 (nI u) (nI s)).2) := rfl
      rw [hxx, zpl2]
      have hk1 := zk_up (S := S) (u := u) (t := s) (p := 1) hun
      have z1 : zid (zpl (S u) = 1) = 1 := by unfold zid; rw [hSu, yz1 hk, if_pos rfl]
      have z2 : zid (zpl s = 1) = 0 := by unfold zid; rw [yz0 hs', if_neg (by decide)]
      have hsum := zsm_zup (Y := P) (u := k) (x := P k + f) (n := 12) hk
      refine ⟨_, trivial, hf, by omega, rfl, zMv aC hun (by omega), ?_, ?_⟩
      · refine ⟨fun j hj w => ?_, fun j hj => ?_, fun j hj => ?_, fun j hj => ?_⟩
        · by_cases e : j = k
          · subst e
            rw [zuH_s rfl]
            constructor
            · intro e; cases e
            · rintro ⟨x, y⟩
              by_cases e2 : w = u
              · rw [e2, zup_s rfl] at y; omega
              · rw [zup_n e2] at y
                have := (aP.1 j hj w).2 ⟨x, y⟩
                rw [hH] at this; cases this; exact absurd rfl e2
          · rw [zuH_n e, aP.1 j hj w]
            by_cases e2 : w = u
            · subst e2
              rw [zup_s rfl]
              constructor
              · rintro ⟨x, y⟩; omega
              · rintro ⟨x, y⟩; omega
            · rw [zup_n e2]
        · have hT := aP.2.1 j hj
          show upd v.1.2.2.2.2.2.2.2.1 k 0 j = nI (zup T k 0 j) ∧ zup T k 0 j ≤ h ∧ (zuH H k none j = none → zup T k 0 j = 0)
          by_cases e : j = k
          · subst e; rw [zus rfl, zup_s rfl]; exact ⟨rfl, by omega, fun _ => rfl⟩
          · rw [zun e, zup_n e, zuH_n e]; exact hT
        · have h4 := aP.2.2.1 j hj
          show upd v.1.2.2.2.2.2.2.1 k (nI (C k + (10 - f))) j = nI (zup C k (C k + (10 - f)) j) ∧ upd v.1.2.2.2.2.2.2.2.2.2.1 k (nI (P k + f)) j = nI (zup P k (P k + f) j) ∧ zup C k (C k + (10 - f)) j + zup P k (P k + f) j + (if zuH H k none j = none then 0 else 10) = 40
          by_cases e : j = k
          · subst e
            rw [zus rfl, zus rfl, zup_s rfl, zup_s rfl, zuH_s rfl, if_pos rfl]
            rw [hH, if_neg (by simp)] at h4
            exact ⟨rfl, rfl, by omega⟩
          · rw [zun e, zun e, zup_n e, zup_n e, zuH_n e]; exact h4
        · have h5 := aP.2.2.2 j hj
          show upd v.1.2.2.2.2.2.2.2.2.1 k (nI s) j = nI (zup O k s j) ∧ zup O k s j < 8
          by_cases e : j = k
          · subst e; rw [zus rfl, zup_s rfl]; exact ⟨rfl, hs'⟩
          · rw [zun e, zup_n e]; exact h5
      · refine ⟨fun t ht => ?_, g1, ?_, g3, rfl, g5, g6, by omega, by omega, g9, g10, g11, fun w hw hS2 => ?_⟩
        · have := g0 t ht
          have hz := zc_up (S := S) (u := u) (t := s) (s := t) hun
          refine ⟨this.1, this.2.1, ?_⟩
          by_cases d : s = t
          · subst d
            have := zid_le (s = s)
            omega
          · have z3 : zid (s = t) = 0 := by unfold zid; rw [if_neg d]
            omega
        · show v.1.2.2.2.2.2.2.2.2.2.2.2.1 - nI (10 - f) = _
          rw [g2, zsub (by omega)]
        · by_cases e : w = u
          · subst e; rw [zup_s rfl] at hS2; omega
          · rw [zup_n e] at hS2; exact g12 w hw hS2
    · left
      refine ⟨by omega, ?_⟩
      simp only [hD, if_false]
      rw [if_neg (by decide)]; rfl
end op
