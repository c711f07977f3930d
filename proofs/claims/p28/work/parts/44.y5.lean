/-! what each look answers -/
def zwI (s : Nat) : Int32 := if s < 22 then nI (zwh s) else -9
theorem zownI {s : Nat} (h : s ≤ 23) : f_X6_ownerOf (nI s) = zwI s := by
  unfold zwI
  by_cases c : s < 22
  · rw [if_pos c, zown c]
  · rw [if_neg c, zown2 (by omega)]
section lk
variable {v : OV} {n : Nat} {S W : Nat → Nat} {H : Nat → Option Nat} {T C P O R Y : Nat → Nat} {h r hs sn : Nat} {Z : Nat}
theorem oC0 (ok : OK v) (a : yC n S W H T C P O R Y h r hs sn v.1) : m_count Z v 0 = some (nI h) := by
  unfold m_count f_X6_count
  rw [gO_in ok, if_pos rfl, a.2.2.2.1]
theorem oC1 (ok : OK v) (a : yC n S W H T C P O R Y h r hs sn v.1) : m_count Z v 1 = some (nI n) := by
  unfold m_count f_X6_count
  rw [gO_in ok, if_neg (by decide), if_pos rfl, a.1.2.1]
theorem oCk (hZ : 5000 < Z) (ok : OK v) (a : yC n S W H T C P O R Y h r hs sn v.1) {k : Nat} (hk : k ≤ 4) : m_count Z v (nI (2 + k)) = some (nI (zk S k n)) := by
  have kd : ∀ x : Int32, nI k = x → f_X5_numberOfKind Z v.1.2.2.2.1 x = some (nI (zk S k n)) := fun x e => by rw [← e]; exact zKind a.1 (by omega) hk
  unfold m_count f_X6_count
  rw [gO_in ok]
  have : k = 0 ∨ k = 1 ∨ k = 2 ∨ k = 3 ∨ k = 4 := by omega
  rcases this with rfl | rfl | rfl | rfl | rfl
  · rw [if_neg (by decide), if_neg (by decide), if_pos (by decide), kd 0 rfl]; rfl
  · rw [if_neg (by decide), if_neg (by decide), if_neg (by decide), if_pos (by decide), kd 1 rfl]; rfl
  · rw [if_neg (by decide), if_neg (by decide), if_neg (by decide), if_neg (by decide), if_pos (by decide), kd 2 rfl]; rfl
  · rw [if_neg (by decide), if_neg (by decide), if_neg (by decide), if_neg (by decide), if_neg (by decide), if_pos (by decide), kd 3 rfl]; rfl
  · rw [if_neg (by decide), if_neg (by decide), if_neg (by decide), if_neg (by decide), if_neg (by decide), if_neg (by decide), if_pos (by decide), kd 4 rfl]; rfl
theorem oC3 (hZ : 5000 < Z) (ok : OK v) (a : yC n S W H T C P O R Y h r hs sn v.1) : m_count Z v 3 = some (nI (zk S 1 n)) := oCk hZ ok a (k := 1) (by omega)
theorem oC4 (hZ : 5000 < Z) (ok : OK v) (a : yC n S W H T C P O R Y h r hs sn v.1) : m_count Z v 4 = some (nI (zk S 2 n)) := oCk hZ ok a (k := 2) (by omega)
theorem oC5 (hZ : 5000 < Z) (ok : OK v) (a : yC n S W H T C P O R Y h r hs sn v.1) : m_count Z v 5 = some (nI (zk S 3 n)) := oCk hZ ok a (k := 3) (by omega)
theorem oC6 (hZ : 5000 < Z) (ok : OK v) (a : yC n S W H T C P O R Y h r hs sn v.1) : m_count Z v 6 = some (nI (zk S 4 n)) := oCk hZ ok a (k := 4) (by omega)
theorem oC7 (hZ : 5000 < Z) (ok : OK v) (a : yC n S W H T C P O R Y h r hs sn v.1) : m_count Z v 7 = some (nI (zsm (fun u => zid (S u ≠ 23 ∧ 32 ≤ W u)) n)) := by
  unfold m_count f_X6_count
  rw [gO_in ok, if_neg (by decide), if_neg (by decide), if_neg (by decide), if_neg (by decide), if_neg (by decide), if_neg (by decide), if_neg (by decide), if_pos (by decide), zNumBroken a.1 (by omega), zob1]
theorem oC8 (ok : OK v) (a : yC n S W H T C P O R Y h r hs sn v.1) : m_count Z v 8 = some (nI hs) := by
  unfold m_count f_X6_count
  rw [gO_in ok, if_neg (by decide), if_neg (by decide), if_neg (by decide), if_neg (by decide), if_neg (by decide), if_neg (by decide), if_neg (by decide), if_neg (by decide), if_pos (by decide), a.2.2.2.2.1]
theorem oC9 (hZ : 5000 < Z) (ok : OK v) (a : yC n S W H T C P O R Y h r hs sn v.1) : m_count Z v 9 = some (nI (zsm C 12)) := by
  unfold m_count f_X6_count
  rw [gO_in ok, if_neg (by decide), if_neg (by decide), if_neg (by decide), if_neg (by decide), if_neg (by decide), if_neg (by decide), if_neg (by decide), if_neg (by decide), if_neg (by decide), if_pos (by decide), zSum hZ (fun k hk => (a.2.1.2.2.1 k hk).1), zob1]
theorem oC10 (ok : OK v) (a : yC n S W H T C P O R Y h r hs sn v.1) : m_count Z v 10 = some (nI sn) := by
  unfold m_count f_X6_count
  rw [gO_in ok, if_neg (by decide), if_neg (by decide), if_neg (by decide), if_neg (by decide), if_neg (by decide), if_neg (by decide), if_neg (by decide), if_neg (by decide), if_neg (by decide), if_neg (by decide), if_pos (by decide), a.2.2.2.2.2.1]
theorem oC11 (hZ : 5000 < Z) (ok : OK v) (a : yC n S W H T C P O R Y h r hs sn v.1) : m_count Z v 11 = some (nI (zsm P 12)) := by
  unfold m_count f_X6_count
  rw [gO_in ok, if_neg (by decide), if_neg (by decide), if_neg (by decide), if_neg (by decide), if_neg (by decide), if_neg (by decide), if_neg (by decide), if_neg (by decide), if_neg (by decide), if_neg (by decide), if_neg (by decide), if_pos (by decide), zSum hZ (fun k hk => (a.2.1.2.2.1 k hk).2.1), zob1]
theorem oC12 (ok : OK v) (a : yC n S W H T C P O R Y h r hs sn v.1) : m_count Z v 12 = some (nI (zsm Y n)) := by
  unfold m_count f_X6_count
  rw [gO_in ok, if_neg (by decide), if_neg (by decide), if_neg (by decide), if_neg (by decide), if_neg (by decide), if_neg (by decide), if_neg (by decide), if_neg (by decide), if_neg (by decide), if_neg (by decide), if_neg (by decide), if_neg (by decide), if_pos (by decide), a.2.2.2.2.2.2.2.2.2.2.2.2.2.1]
theorem oC13 (ok : OK v) : m_count Z v 13 = some v.1.2.2.2.2.2.2.2.2.2.2.2.2.2.2.1 := by
  unfold m_count f_X6_count
  rw [gO_in ok, if_neg (by decide), if_neg (by decide), if_neg (by decide), if_neg (by decide), if_neg (by decide), if_neg (by decide), if_neg (by decide), if_neg (by decide), if_neg (by decide), if_neg (by decide), if_neg (by decide), if_neg (by decide), if_neg (by decide), if_pos (by decide)]
theorem oC14 (ok : OK v) (a : yC n S W H T C P O R Y h r hs sn v.1) : m_count Z v 14 = some (nI r) := by
  unfold m_count f_X6_count
  rw [gO_in ok, if_neg (by decide), if_neg (by decide), if_neg (by decide), if_neg (by decide), if_neg (by decide), if_neg (by decide), if_neg (by decide), if_neg (by decide), if_neg (by decide), if_neg (by decide), if_neg (by decide), if_neg (by decide), if_neg (by decide), if_neg (by decide), if_pos (by decide), a.2.2.2.2.2.2.1]
theorem oUo (a : yC n S W H T C P O R Y h r hs sn v.1) {u : Nat} (hu : u < n) : f_X6_outside (nI u) 0 (v.1.2.2.2.2.1 - 1) = 0 := by
  have hn := a.1.1
  exact youtI (m := n - 1) (by rw [a.1.2.1, show (1 : Int32) = nI 1 from rfl, zsub (by omega)]) (by omega) (by omega)
theorem oU0 (ok : OK v) (a : yC n S W H T C P O R Y h r hs sn v.1) {u : Nat} (hu : u < n) : m_umbrella v (nI u) 0 = some (nI (zpl (S u))) := by
  have hn := a.1.1
  unfold m_umbrella f_X6_umbrella
  rw [gO_in ok, oUo a hu, if_pos rfl, if_pos rfl, zat (by omega) (by decide), a.1.2.2.2.2.2.1 u hu, zkind (a.1.2.2.1 u hu)]
theorem oU1 (ok : OK v) (a : yC n S W H T C P O R Y h r hs sn v.1) {u : Nat} (hu : u < n) : m_umbrella v (nI u) 1 = some (zwI (S u)) := by
  have hn := a.1.1
  unfold m_umbrella f_X6_umbrella
  rw [gO_in ok, oUo a hu, if_pos rfl, if_neg (by decide), if_pos rfl, zat (by omega) (by decide), a.1.2.2.2.2.2.1 u hu, zownI (a.1.2.2.1 u hu)]
theorem oU2 (ok : OK v) (a : yC n S W H T C P O R Y h r hs sn v.1) {u : Nat} (hu : u < n) : m_umbrella v (nI u) 2 = some (nI (W u)) := by
  have hn := a.1.1
  unfold m_umbrella f_X6_umbrella
  rw [gO_in ok, oUo a hu, if_pos rfl, if_neg (by decide), if_neg (by decide), if_pos rfl, zat (by omega) (by decide), a.1.2.2.2.2.2.2.1 u (by omega)]
theorem oU3 (ok : OK v) (a : yC n S W H T C P O R Y h r hs sn v.1) {u : Nat} (hu : u < n) : m_umbrella v (nI u) 3 = some (if W u < 32 then 0 else 1) := by
  have hn := a.1.1
  unfold m_umbrella f_X6_umbrella
  rw [gO_in ok, oUo a hu, if_pos rfl, if_neg (by decide), if_neg (by decide), if_neg (by decide), if_pos rfl, ziB (by omega) (a.1.2.2.2.2.2.2.1 u (by omega)) (a.1.2.2.2.1 u)]
  by_cases c : W u < 32
  · rw [if_pos c, if_pos rfl]
  · rw [if_neg c, if_neg (by decide)]
theorem oU4 (ok : OK v) (a : yC n S W H T C P O R Y h r hs sn v.1) {u : Nat} (hu : u < n) : m_umbrella v (nI u) 4 = some (nI (Y u)) := by
  have hn := a.1.1
  unfold m_umbrella f_X6_umbrella
  rw [gO_in ok, oUo a hu, if_pos rfl, if_neg (by decide), if_neg (by decide), if_neg (by decide), if_neg (by decide), if_pos rfl, zat (by omega) (by decide), a.2.2.2.2.2.2.2.2.2.2.2.1 u (by omega)]
theorem oUn (ok : OK v) (a : yC n S W H T C P O R Y h r hs sn v.1) : m_umbrella v (nI n) 0 = some (-1) := by
  have hn := a.1.1
  unfold m_umbrella f_X6_umbrella
  have e : f_X6_outside (nI n) 0 (v.1.2.2.2.2.1 - 1) = 1 := by
    rw [a.1.2.1]
    by_cases c : n = 0
    · subst c; decide
    · exact yoi (m := n - 1) (by rw [show (1 : Int32) = nI 1 from rfl, zsub (by omega)]) (by omega) (by omega) (by omega)
  rw [gO_in ok, e, if_neg (by decide)]
theorem oS0 (ok : OK v) (a : yC n S W H T C P O R Y h r hs sn v.1) {s : Nat} (hs' : s < 8) : m_stand Z v (nI s) 0 = some (nI (R s)) := by
  unfold m_stand f_X6_stand
  rw [gO_in ok, youtI (m := 7) (M := 7) rfl (by decide) (by omega), if_pos rfl, if_pos rfl, zat hs' (by decide), (a.2.2.1 s hs').1]
theorem oS1 (ok : OK v) (a : yC n S W H T C P O R Y h r hs sn v.1) {s : Nat} (hs' : s < 8) : m_stand Z v (nI s) 1 = some (nI (zc S s n)) := by
  unfold m_stand f_X6_stand
  rw [gO_in ok, youtI (m := 7) (M := 7) rfl (by decide) (by omega), if_pos rfl, if_neg (by decide), if_pos rfl, zNum a.1 (by omega)]
theorem oS2 (hZ : 5000 < Z) (ok : OK v) (a : yC n S W H T C P O R Y h r hs sn v.1) {s : Nat} (hs' : s < 8) : m_stand Z v (nI s) 2 = some (nI (zb S W s n)) := by
  unfold m_stand f_X6_stand
  rw [gO_in ok, youtI (m := 7) (M := 7) rfl (by decide) (by omega), if_pos rfl, if_neg (by decide), if_neg (by decide), if_pos rfl, zBrokenAt a.1 (by omega) (by omega), zob1]
theorem oS3 (hZ : 5000 < Z) (ok : OK v) (a : yC n S W H T C P O R Y h r hs sn v.1) {s : Nat} (hs' : s < 8) : m_stand Z v (nI s) 3 = some (zev (-9) (zbest S W s n)) := by
  unfold m_stand f_X6_stand
  rw [gO_in ok, youtI (m := 7) (M := 7) rfl (by decide) (by omega), if_pos rfl, if_neg (by decide), if_neg (by decide), if_neg (by decide), if_pos rfl, zBest a.1 (by omega) (by omega), zob1]
theorem oS4 (hZ : 5000 < Z) (ok : OK v) (a : yC n S W H T C P O R Y h r hs sn v.1) {s : Nat} (hs' : s < 8) : m_stand Z v (nI s) 4 = some (zev (-9) (zwors S W s n)) := by
  unfold m_stand f_X6_stand
  rw [gO_in ok, youtI (m := 7) (M := 7) rfl (by decide) (by omega), if_pos rfl, if_neg (by decide), if_neg (by decide), if_neg (by decide), if_neg (by decide), if_pos rfl, zWorst a.1 (by omega) (by omega), zob1]
theorem oP0 (hZ : 5000 < Z) (ok : OK v) (a : yC n S W H T C P O R Y h r hs sn v.1) {k : Nat} (hk : k < 12) : m_person Z v (nI k) 0 = some (nI (C k)) := by
  unfold m_person f_X6_person
  rw [gO_in ok, youtI (m := 11) (M := 11) rfl (by decide) (by omega), if_pos rfl, zHand a.1 a.2.1 (by omega) hk, zob1, if_pos rfl, zat hk (by decide), (a.2.1.2.2.1 k hk).1]
theorem oP1 (hZ : 5000 < Z) (ok : OK v) (a : yC n S W H T C P O R Y h r hs sn v.1) {k : Nat} (hk : k < 12) : m_person Z v (nI k) 1 = some (zev (-9) (H k)) := by
  unfold m_person f_X6_person
  rw [gO_in ok, youtI (m := 11) (M := 11) rfl (by decide) (by omega), if_pos rfl, zHand a.1 a.2.1 (by omega) hk, zob1, if_neg (by decide), if_pos rfl]
theorem oP2 (hZ : 5000 < Z) (ok : OK v) (a : yC n S W H T C P O R Y h r hs sn v.1) {k : Nat} (hk : k < 12) : m_person Z v (nI k) 2 = some (nI (T k)) := by
  unfold m_person f_X6_person
  rw [gO_in ok, youtI (m := 11) (M := 11) rfl (by decide) (by omega), if_pos rfl, zHand a.1 a.2.1 (by omega) hk, zob1, if_neg (by decide), if_neg (by decide), if_pos rfl, zat hk (by decide), (a.2.1.2.1 k hk).1]
theorem oP3 (hZ : 5000 < Z) (ok : OK v) (a : yC n S W H T C P O R Y h r hs sn v.1) {k : Nat} (hk : k < 12) : m_person Z v (nI k) 3 = some (nI (zbk W (H k))) := by
  have hn := a.1.1
  unfold m_person f_X6_person
  rw [gO_in ok, youtI (m := 11) (M := 11) rfl (by decide) (by omega), if_pos rfl, zHand a.1 a.2.1 (by omega) hk, zob1, if_neg (by decide), if_neg (by decide), if_neg (by decide), if_pos rfl]
  cases hH : H k with
  | none => rw [if_pos (show zev (-9) none = -9 from rfl)]; rfl
  | some u =>
    have hu := (a.2.1.1 k hk u).1 hH
    have h9 : ¬ (zev (-9) (some u) = -9) := fun e => by rw [show zev (-9) (some u) = nI u from rfl, zn9 (by omega)] at e; exact e
    rw [if_neg h9, show zev (-9) (some u) = nI u from rfl, ziB (by omega) (a.1.2.2.2.2.2.2.1 u (by omega)) (a.1.2.2.2.1 u)]
    have eb : zbk W (some u) = if 32 ≤ W u then 1 else 0 := rfl
    rw [eb]
    by_cases c : W u < 32
    · rw [if_pos c, if_pos rfl, if_neg (by omega)]; rfl
    · rw [if_neg c, if_neg (by decide), if_pos (by omega)]; rfl
theorem oP4 (hZ : 5000 < Z) (ok : OK v) (a : yC n S W H T C P O R Y h r hs sn v.1) {k : Nat} (hk : k < 12) : m_person Z v (nI k) 4 = some (nI (O k)) := by
  unfold m_person f_X6_person
  rw [gO_in ok, youtI (m := 11) (M := 11) rfl (by decide) (by omega), if_pos rfl, zHand a.1 a.2.1 (by omega) hk, zob1, if_neg (by decide), if_neg (by decide), if_neg (by decide), if_neg (by decide), if_pos rfl, zat hk (by decide), (a.2.1.2.2.2 k hk).1]
theorem oP5 (hZ : 5000 < Z) (ok : OK v) (a : yC n S W H T C P O R Y h r hs sn v.1) {k : Nat} (hk : k < 12) : m_person Z v (nI k) 5 = some (nI (P k)) := by
  unfold m_person f_X6_person
  rw [gO_in ok, youtI (m := 11) (M := 11) rfl (by decide) (by omega), if_pos rfl, zHand a.1 a.2.1 (by omega) hk, zob1, if_neg (by decide), if_neg (by decide), if_neg (by decide), if_neg (by decide), if_neg (by decide), if_pos rfl, zat hk (by decide), (a.2.1.2.2.1 k hk).2.1]
def yfee (W : Nat → Nat) (r T m rn : Nat) : Option Nat → Int32
  | none => -2
  | some u => nI (zfee r (T + (if rn < 2 then 0 else m)) (zit (fun x => zwo x rn 0) m (W u)))
theorem oF (hZ : 5000 < Z) (ok : OK v) (a : yC n S W H T C P O R Y h r hs sn v.1) {k m rn : Nat} (hk : k < 12) (hm : m ≤ 50) (hrn : rn ≤ 9) : m_feeIn Z v (nI k) (nI m) (nI rn) = some (yfee W r (T k) m rn (H k)) := by
  unfold m_feeIn f_X6_feeIn
  rw [gO_in ok, youtI (m := 11) (M := 11) rfl (by decide) (by omega), if_pos rfl, youtI (m := 50) (M := 50) rfl (by decide) (by omega), if_pos rfl, youtI (m := 9) (M := 9) rfl (by decide) (by omega), if_pos rfl, zHas a.1 a.2.1 hk]
  cases hH : H k with
  | none => rw [if_pos rfl, if_pos rfl]; rfl
  | some u =>
    rw [if_neg (show ¬ ((some u : Option Nat) = none) by simp), if_neg (by decide), a.2.2.2.2.2.2.1, zFee a.1 a.2.1 (by omega) hk hH a.2.2.2.2.2.2.2.1 (by have := a.2.2.2.2.2.2.2.2.1; omega) hm hrn, zob1]
    rfl
def ybrk (W : Nat → Nat) (rn gs : Nat) : Option Nat → Int32
  | none => -2
  | some u => zev (-9) (zhb rn gs 100 (W u) 0)
theorem oB (hZ : 5000 < Z) (ok : OK v) (a : yC n S W H T C P O R Y h r hs sn v.1) {k rn gs : Nat} (hk : k < 12) (hrn : rn ≤ 9) (hgs : gs ≤ 3) : m_breaksIn Z v (nI k) (nI rn) (nI gs) = some (ybrk W rn gs (H k)) := by
  have hn := a.1.1
  unfold m_breaksIn f_X6_breaksIn
  rw [gO_in ok, youtI (m := 11) (M := 11) rfl (by decide) (by omega), if_pos rfl, youtI (m := 9) (M := 9) rfl (by decide) (by omega), if_pos rfl, youtI (m := 3) (M := 3) rfl (by decide) (by omega), if_pos rfl, zHas a.1 a.2.1 hk]
  cases hH : H k with
  | none => rw [if_pos rfl, if_pos rfl]; rfl
  | some u =>
    have hu := (a.2.1.1 k hk u).1 hH
    have h5 := zHb (w := 0) hrn hgs 100 (W u) 0 Z (a.1.2.2.2.1 u) (by omega) (by omega)
    rw [if_neg (show ¬ ((some u : Option Nat) = none) by simp), if_neg (by decide)]
    unfold f_X0_hoursToBreak
    rw [zHand a.1 a.2.1 (by omega) hk, zob1, hH]
    simp only [zev]
    rw [zat (by omega) (by decide), a.1.2.2.2.2.2.2.1 u (by omega), show f_X0_hoursToBreak_L20 (nI rn) (nI gs) Z (nI (W u)) 0 = _ from h5]
    rfl
end lk
