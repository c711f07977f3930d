theorem zRC.we {n : Nat} {S W : Nat → Nat} {sp we ta : Nat → Int32} {num : Int32} (a : zRC n S W sp we ta num) {u x : Nat} (hu : u < n) (hx : x ≤ 64) : zRC n S (zup W u x) sp (upd we u (nI x)) ta num := by
  obtain ⟨h0, h1, h2, h3, h4, h5, h6, h7⟩ := a
  refine ⟨h0, h1, h2, fun v => ?_, fun v hv => ?_, h5, fun v hv => ?_, h7⟩
  · by_cases e : v = u
    · rw [zup_s e]; exact hx
    · rw [zup_n e]; exact h3 v
  · rw [zup_n (by omega)]; exact h4 v hv
  · by_cases e : v = u
    · rw [zup_s e, zus e]
    · rw [zup_n e, zun e]; exact h6 v hv
theorem zdiv4 {w : Nat} (h : w ≤ 64) : nI w / 4 = nI (w / 4) := by
  have : ∀ w, w < 65 → nI w / 4 = nI (w / 4) := by decide
  exact this w (by omega)
theorem zk3 {n : Nat} {S : Nat → Nat} (hS : ∀ u, u < n → S u ≤ 23) : zk S 3 n = zc S 22 n := by
  refine zsm_congr (fun u hu => ?_)
  have := hS u hu
  have : (zpl (S u) = 3) = (S u = 22) := by
    apply propext; unfold zpl; constructor
    · intro hh; split at hh <;> (try split at hh) <;> (try split at hh) <;> (try split at hh) <;> omega
    · intro hh; rw [hh]; rfl
  simp only [this]
theorem zlw_1 {n : Nat} {S W : Nat → Nat} (hW : ∀ u, W u ≤ 64) (h : 2 ≤ zc S 22 n) : ∃ a b, zlw S W 22 64 none n = some a ∧ zlw S W 22 64 (some a) n = some b ∧ a ≠ b ∧ a < n ∧ b < n ∧ S a = 22 ∧ S b = 22 := by
  cases ha : zlw S W 22 64 none n with
  | none =>
    have := zam_none.1 ha
    have : zc S 22 n = 0 := zsm_none (fun i hi => by
      unfold zid; rw [if_neg]; intro e; exact this i hi ⟨e, hW i, by simp⟩)
    omega
  | some a =>
    have h1 := zam_ok ha
    cases hb : zlw S W 22 64 (some a) n with
    | none =>
      have := zam_none.1 hb
      have : zc S 22 n = zid (S a = 22) := zsm_one h1.1 (fun i hi hne => by
        unfold zid; rw [if_neg]; intro e; exact this i hi ⟨e, hW i, by simpa using hne⟩)
      have := zid_le (S a = 22)
      omega
    | some b =>
      have h2 := zam_ok hb
      exact ⟨a, b, rfl, hb, fun e => h2.2.2.2 (by rw [e]), h1.1, h2.1, h1.2.1, h2.2.1⟩
theorem zsm_le_le {f : Nat → Nat} {i n : Nat} (h : i ≤ n) : zsm f i ≤ zsm f n := by
  obtain ⟨q, rfl⟩ : ∃ q, n = i + q := ⟨n - i, by omega⟩
  rw [zsm_app]; omega
section yB
variable {v : OV} {c : CV} {n : Nat} {S W : Nat → Nat} {H : Nat → Option Nat} {T C P O R Y : Nat → Nat} {h r hs sn : Nat} {sp we le ta : Nat → Int32} {num : Int32} {rooms pu sh ho pa : Nat → Int32} {hours house spent loans surges rate : Int32}
theorem yDelL {w : Nat} (hv : w < 2) (S0 : Nat → Nat) : ∀ k i F S sp ta, n - i = k → i ≤ n → n - i < F → (∀ u, i ≤ u → S u = S0 u) → yB n W H T C P O h we num pu sh ho pa S sp ta → ∃ S' sp' ta', f_X0_deliver_L4 we num (nI w) F (nI (zb S0 W (20 + w) i)) (nI i) sp ta = some (nI (zb S0 W (20 + w) n), sp', ta') ∧ yB n W H T C P O h we num pu sh ho pa S' sp' ta' ∧ (∀ u, S' u = S u ∨ (S u = 20 + w ∧ 32 ≤ W u ∧ S' u = 22)) ∧ zk S' 2 n + (zb S0 W (20 + w) n - zb S0 W (20 + w) i) = zk S 2 n ∧ zk S' 3 n = zk S 3 n + (zb S0 W (20 + w) n - zb S0 W (20 + w) i) := by
  intro k
  induction k with
  | zero =>
    intro i F S sp ta hk hi hF hS0 b
    obtain ⟨F, rfl⟩ : ∃ G, F = G + 1 := ⟨F - 1, by omega⟩
    have : i = n := by omega
    subst this
    have hn := b.1.1
    refine ⟨S, sp, ta, ?_, b, fun u => Or.inl rfl, by omega, by omega⟩
    rw [f_X0_deliver_L4, b.1.2.1]; simp (disch := omega) only [zpl1, zpl2, zpl3, zob1, zob2, zob3, zlt, zeq, znn, zn9, zat, zput, zaddc, zag, zas, zl2, zl3, zl4, zl5, zl6, zl7, zl8, zl10, zl12, zl16, zl20, zl22, zl23, zl30, zl31, zl32, zl60, zl64, zl80, zl100, zl500, zl580, nI_1, z1I, zadd, if_true, if_false, Nat.lt_irrefl]
  | succ k ih =>
    intro i F S sp ta hk hi hF hS0 b
    obtain ⟨F, rfl⟩ : ∃ G, F = G + 1 := ⟨F - 1, by omega⟩
    have hin : i < n := by omega
    have hn := b.1.1
    have hW := b.1.2.2.2.1 i
    have hSi := b.1.2.2.1 i hin
    have hsp := b.1.2.2.2.2.2.1
    have hbr : f_X5_isBroken we (nI i) = if W i < 32 then 0 else 1 := ziB (by omega) (b.1.2.2.2.2.2.2.1 i (by omega)) hW
    have hzb : zb S0 W (20 + w) (i + 1) = zb S0 W (20 + w) i + zid (S i = 20 + w ∧ 32 ≤ W i) := by
      rw [hS0 i (by omega)]; rfl
    have hle : zb S0 W (20 + w) (i + 1) ≤ zb S0 W (20 + w) n := zsm_le_le (by omega)
    have hle1 := zb_le S0 W (20 + w) i
    have hle2 := zc_le S0 (20 + w) i
    have e20 : (nI 20 + nI w : Int32) = nI (20 + w) := zadd _ _
    rw [f_X0_deliver_L4, b.1.2.1, hbr]
    simp (disch := omega) only [zpl1, zpl2, zpl3, zob1, zob2, zob3, zlt, zeq, znn, zn9, zat, zput, zaddc, zag, zas, zl2, zl3, zl4, zl5, zl6, zl7, zl8, zl10, zl12, zl16, zl20, zl22, zl23, zl30, zl31, zl32, zl60, zl64, zl80, zl100, zl500, zl580, nI_1, z1I, zadd, if_true, if_false, hin, hsp]
    by_cases hc : S i = 20 + w
    · by_cases hd : W i < 32
      · simp only [hc, hd, if_true, z10, if_false]
        have e : zid (S i = 20 + w ∧ 32 ≤ W i) = 0 := zid_0 (by omega)
        rw [e] at hzb
        rw [zpl3, ← b.1.2.1, ← show zb S0 W (20 + w) (i + 1) = zb S0 W (20 + w) i from hzb]
        exact ih (i + 1) F _ _ _ (by omega) (by omega) (by omega) (fun u hu => hS0 u (by omega)) b
      · have hb' := b.mv (u := i) (t := 22) hin (by omega) (by omega) (by omega)
        simp only [hc, hd, if_true, z10, if_false]
        have e21 : f_X5_move sp ta (nI i) (nI 22) = ((f_X5_move sp ta (nI i) (nI 22)).1, (f_X5_move sp ta (nI i) (nI 22)).2) := rfl
        have e : zid (S i = 20 + w ∧ 32 ≤ W i) = 1 := zid_1 (by omega)
        rw [e] at hzb
        have k2 := zk_up (S := S) (u := i) (t := 22) (p := 2) hin
        have k3 := zk_up (S := S) (u := i) (t := 22) (p := 3) hin
        rw [hc, yz2 hv, zid_1 rfl, zid_0 (show ¬ zpl 22 = 2 by decide)] at k2
        rw [hc, yz2 hv, zid_0 (by decide), zid_1 (show zpl 22 = 3 by decide)] at k3
        rw [e21, zpl2, zpl3, ← b.1.2.1, ← show zb S0 W (20 + w) (i + 1) = zb S0 W (20 + w) i + 1 from hzb]
        obtain ⟨S', sp', ta', l1, l2, l3, l4, l5⟩ := ih (i + 1) F _ _ _ (by omega) (by omega) (by omega) (fun u hu => by rw [zup_n (by omega)]; exact hS0 u (by omega)) hb'
        refine ⟨S', sp', ta', l1, l2, fun u => ?_, by omega, by omega⟩
        by_cases e : u = i
        · subst e
          rcases l3 u with q | q
          · rw [zup_s rfl] at q; exact Or.inr ⟨hc, by omega, q⟩
          · exact Or.inr ⟨hc, q.2⟩
        · have := l3 u
          rw [zup_n e] at this; exact this
    · simp only [hc, if_false]
      have e : zid (S i = 20 + w ∧ 32 ≤ W i) = 0 := zid_0 (fun x => hc x.1)
      rw [e] at hzb
      rw [zpl3, ← b.1.2.1, ← show zb S0 W (20 + w) (i + 1) = zb S0 W (20 + w) i from hzb]
      exact ih (i + 1) F _ _ _ (by omega) (by omega) (by omega) (fun u hu => hS0 u (by omega)) b
theorem yToWork {Z w : Nat} (hZ : 5000 < Z) (ok : OK v) (a : yC n S W H T C P O R Y h r hs sn v.1) (hv : w < 2) :
    m_toWorkshop Z v (nI w) = some (-2, v) ∨ ∃ c' S' q, 0 < q ∧ q ≤ 60 ∧ m_toWorkshop Z v (nI w) = some (nI q, yW v c') ∧ yC n S' W H T C P O R Y h r hs sn c' ∧ zk S' 2 n + q = zk S 2 n ∧ zk S' 3 n = zk S 3 n + q ∧ zk S' 1 n = zk S 1 n ∧ zk S' 4 n = zk S 4 n ∧ (∀ s, s < 8 → zc S' s n = zc S s n) := by
  have aC := a.1
  have hn := aC.1
  have e1 : f_X6_outside (nI w) 0 1 = 0 := youtI (m := 1) (M := 1) rfl (by decide) (by omega)
  have q20 : f_X5_brokenAt Z v.1.1 v.1.2.1 v.1.2.2.2.2.1 (20 + nI w) = some (nI (zb S W (20 + w) n)) := by
    rw [zl20, zadd, zBrokenAt aC (by omega) (by omega)]
  have hzl := zb_le S W (20 + w) n
  have hcl := zc_le S (20 + w) n
  have k1 : (nI (zb S W (20 + w) n) = 0) = (zb S W (20 + w) n = 0) := zeq (b := 0) (by omega) (by omega)
  unfold m_toWorkshop
  rw [gO_in ok]
  unfold f_X6_toWorkshop f_X0_deliveringError
  simp only [e1, q20, k1, zob1, if_true]
  by_cases hA : zb S W (20 + w) n = 0
  · left
    simp only [hA, if_true, zob1]
    rw [if_neg (by decide)]; rfl
  · right
    simp only [hA, if_false, if_true, zob1]
    obtain ⟨S', sp', ta', l1, l2, l3, l4, l5⟩ := yDelL (n := n) (W := W) (H := H) (T := T) (C := C) (P := P) (O := O) (h := h) (we := v.1.2.1) (num := v.1.2.2.2.2.1) (pu := v.1.2.2.2.2.2.2.1) (sh := v.1.2.2.2.2.2.2.2.1) (ho := v.1.2.2.2.2.2.2.2.2.1) (pa := v.1.2.2.2.2.2.2.2.2.2.1) (w := w) hv S n 0 Z S v.1.1 v.1.2.2.2.1 rfl (by omega) (by omega) (fun _ _ => rfl) ⟨aC, a.2.1⟩
    have l1' : f_X0_deliver_L4 v.1.2.1 v.1.2.2.2.2.1 (nI w) Z 0 0 v.1.1 v.1.2.2.2.1 = some (nI (zb S W (20 + w) n), sp', ta') := l1
    have hz0 : zb S W (20 + w) 0 = 0 := rfl
    have pk : ∀ p, p ≠ 2 → p ≠ 3 → zk S' p n = zk S p n := fun p h2 h3 => zsm_congr (fun u _ => by
      rcases l3 u with q1 | q1
      · rw [q1]
      · rw [q1.1, q1.2.2, yz2 hv, zid_0 (show ¬ zpl 22 = p from fun e => h3 e.symm), zid_0 (show ¬ 2 = p from fun e => h2 e.symm)])
    have pc : ∀ s, s < 8 → zc S' s n = zc S s n := fun s hs' => zsm_congr (fun u _ => by
      rcases l3 u with q1 | q1
      · rw [q1]
      · rw [q1.1, q1.2.2, zid_0 (by omega), zid_0 (by omega)])
    unfold f_X0_deliver
    simp only [l1', zob3]
    refine ⟨zTP v.1 sp' ta', S', zb S W (20 + w) n, by omega, by omega, rfl, yB.ct a l2 (fun t ht => ?_) (pk 1 (by decide) (by decide)) (fun u hu hS2 => ?_), by omega, by omega, pk 1 (by decide) (by decide), pk 4 (by decide) (by decide), pc⟩
    · rw [pc t ht]; exact (a.2.2.1 t ht).2.2
    · rcases l3 u with q1 | q1
      · rw [q1] at hS2; exact a.2.2.2.2.2.2.2.2.2.2.2.2.2.2 u hu hS2
      · exact q1.2.1
theorem yMend {Z s : Nat} (hZ : 5000 < Z) (ok : OK v) (a : yC n S W H T C P O R Y h r hs sn v.1) (hs' : s < 8) :
    ((zk S 3 n < 2 ∨ hs < 10 * zk S 1 n + 3) ∧ m_mend Z v (nI s) = some (-2, v)) ∨ (R s ≤ zc S s n ∧ m_mend Z v (nI s) = some (-3, v)) ∨
    (3 ≤ hs ∧ ∃ c' S' W' q, q < n ∧ m_mend Z v (nI s) = some (nI q, yW v c') ∧ yC n S' W' H T C P O R Y h r (hs - 3) (sn + 3) c' ∧ S' q = s ∧ W' q < 32 ∧ zk S' 4 n = zk S 4 n + 1 ∧ zk S' 3 n + 2 = zk S 3 n ∧ zk S' 2 n = zk S 2 n) := by
  obtain ⟨aC, aP, aG⟩ := id a
  have hn := aC.1
  have hh := yhs a
  have hR := aG.1 s hs'
  have hcl := zc_le S s n
  have hcl2 := zc_le S 22 n
  have hk3 := zk3 aC.2.2.1
  have e1 : f_X6_outside (nI s) 0 7 = 0 := youtI (m := 7) (M := 7) rfl (by decide) (by omega)
  have h22 : f_X5_numberAt v.1.2.2.2.1 22 = nI (zk S 3 n) := by rw [hk3]; exact zNum aC (s := 22) (by omega)
  have e22 : (nI (zk S 3 n) < 2) = (zk S 3 n < 2) := zlt (b := 2) (by omega) (by omega)
  have hk1 : f_X5_numberOfKind Z v.1.2.2.2.1 1 = some (nI (zk S 1 n)) := zKind aC (k := 1) (by omega) (by omega)
  have hsp : v.1.2.2.2.2.2.2.2.2.2.2.2.1 - 10 * nI (zk S 1 n) = nI (hs - 10 * zk S 1 n) := by
    rw [aG.2.2.1, zl10, zmul, zsub (by omega)]
  have e3 : (nI (hs - 10 * zk S 1 n) < 3) = (hs - 10 * zk S 1 n < 3) := zlt (b := 3) (by omega) (by omega)
  have hfr : f_X2_at 8 v.1.2.2.2.2.2.1 (nI s) - f_X5_numberAt v.1.2.2.2.1 (nI s) = nI (R s - zc S s n) := by
    rw [zat (by omega) (by omega), zNum aC (by omega), hR.1, zsub hR.2.2]
  have k1 : (0 < nI (R s - zc S s n)) = (zc S s n < R s) := by
    rw [show (0 : Int32) = nI 0 from rfl, zlt (by omega) (by omega)]; apply propext; omega
  unfold m_mend
  rw [gO_in ok]
  unfold f_X6_mend f_X0_mendingError f_X0_spendable f_X0_freeAt
  simp only [e1, h22, e22, hk1, hsp, e3, hfr, k1, zob1, if_true]
  by_cases hA : zk S 3 n < 2
  · left
    refine ⟨Or.inl hA, ?_⟩
    simp only [hA, if_true, zob1]
    rw [if_neg (by decide)]; rfl
  · simp only [hA, if_false]
    by_cases hB : hs - 10 * zk S 1 n < 3
    · left
      refine ⟨Or.inr (by omega), ?_⟩
      simp only [hB, if_true, zob1]
      rw [if_neg (by decide)]; rfl
    · right
      simp only [hB, if_false]
      by_cases hD : zc S s n < R s
      · right
        simp only [hD, if_true, zob1]
        obtain ⟨x, y, l1, l2, l3, l4, l5, l6, l7⟩ := zlw_1 (W := W) aC.2.2.2.1 (show 2 ≤ zc S 22 n by omega)
        have b1 := zLeast aC (Z := Z) (s := 22) (bd := 64) (x := none) (fun m hm => by cases hm) (by omega) (by omega) (by omega)
        have b2 := zLeast aC (Z := Z) (s := 22) (bd := 64) (x := some x) (fun m hm => by cases hm; omega) (by omega) (by omega) (by omega)
        rw [l1] at b1
        rw [l2] at b2
        have b1' : f_X5_leastWornAt Z v.1.1 v.1.2.1 v.1.2.2.2.2.1 22 64 (-9) = some (nI x) := b1
        have b2' : f_X5_leastWornAt Z v.1.1 v.1.2.1 v.1.2.2.2.2.1 22 64 (nI x) = some (nI y) := b2
        have hWx := aC.2.2.2.1 x
        have emin : imin (nI x) (nI y) = nI (min x y) := zmin (by omega) (by omega)
        have emax : imax (nI x) (nI y) = nI (max x y) := zmax (by omega) (by omega)
        have eW : f_X2_at 60 v.1.2.1 (nI x) = nI (W x) := by
          rw [zat (by omega) (by omega)]; exact aC.2.2.2.2.2.2.1 x (by omega)
        have hmn : min x y < n := by omega
        have hmx : max x y < n := by omega
        have hne : min x y ≠ max x y := by omega
        have hSm : S (min x y) = 22 := by rcases Nat.le_total x y with e | e <;> simp [Nat.min_eq_left, Nat.min_eq_right, e, l6, l7]
        have hSx : S (max x y) = 22 := by rcases Nat.le_total x y with e | e <;> simp [Nat.max_eq_left, Nat.max_eq_right, e, l6, l7]
        unfold f_X0_mendOne f_X0_spend
        simp only [b1', b2', zob1, zpl2, emin, emax, eW, zdiv4 hWx]
        generalize hmnn : min x y = mn at *
        generalize hmxx : max x y = mx at *
        have M1 := zMv (zMv aC (u := mn) (t := s) hmn (by omega)) (u := mx) (t := 23) hmx (by omega)
        have R1 := (aP.mv (u := mn) (t := s) (by omega) (by omega)).mv (u := mx) (t := 23) (by rw [zup_n (Ne.symm hne)]; omega) (by omega)
        have M2 := M1.we (u := mn) (x := W x / 4) hmn (by omega)
        have eput : f_X2_put 60 v.1.2.1 (nI mn) (nI (W x / 4)) = upd v.1.2.1 mn (nI (W x / 4)) := zput (by omega) (by omega)
        rw [zl23, eput]
        obtain ⟨g0, g1, g2, g3, g4, g5, g6, g7, g8, g9, g10, g11, g12⟩ := aG
        have hxk : zup S mn s mx = 22 := by rw [zup_n (Ne.symm hne)]; exact hSx
        have kk : ∀ p, zk (zup (zup S mn s) mx 23) p n + zid (3 = p) + zid (3 = p) = zk S p n + zid (0 = p) + zid (4 = p) := fun p => by
          have q1 := zk_up (S := S) (u := mn) (t := s) (p := p) hmn
          have q2 := zk_up (S := zup S mn s) (u := mx) (t := 23) (p := p) hmx
          rw [hSm, yz0 hs'] at q1
          rw [hxk] at q2
          have z1 : zpl 22 = 3 := rfl
          have z2 : zpl 23 = 4 := rfl
          rw [z1] at q1 q2
          rw [z2] at q2
          omega
        have kc : ∀ t, t < 8 → zc (zup (zup S mn s) mx 23) t n = zc S t n + zid (s = t) := fun t ht => by
          have q1 := zc_up (S := S) (u := mn) (t := s) (s := t) hmn
          have q2 := zc_up (S := zup S mn s) (u := mx) (t := 23) (s := t) hmx
          rw [hSm, zid_0 (show ¬ 22 = t by omega)] at q1
          rw [hxk, zid_0 (show ¬ 22 = t by omega), zid_0 (show ¬ 23 = t by omega)] at q2
          omega
        have k11 := kk 1
        have k13 := kk 3
        have k14 := kk 4
        have k12 := kk 2
        rw [zid_0 (by decide), zid_0 (by decide), zid_0 (by decide)] at k12
        rw [zid_0 (by decide), zid_0 (by decide), zid_0 (by decide)] at k11
        rw [zid_1 rfl, zid_0 (by decide), zid_0 (by decide)] at k13
        rw [zid_0 (by decide), zid_0 (by decide), zid_1 rfl] at k14
        refine ⟨by omega, _, _, _, mn, hmn, rfl, ⟨M2, R1, ?_⟩, ?_, ?_, by omega, by omega, by omega⟩
        · refine ⟨fun t ht => ?_, g1, ?_, ?_, g4, g5, g6, by omega, by omega, g9, g10, g11, fun u hu hS2 => ?_⟩
          · have := g0 t ht
            refine ⟨this.1, this.2.1, ?_⟩
            rw [kc t ht]
            by_cases d : s = t
            · subst d; rw [zid_1 rfl]; omega
            · rw [zid_0 d]; omega
          · show v.1.2.2.2.2.2.2.2.2.2.2.2.1 - 3 = _
            rw [g2, zl3, zsub (by omega)]
          · show v.1.2.2.2.2.2.2.2.2.2.2.2.2.1 + 3 = _
            rw [g3, zl3, zadd]
          · by_cases e : u = mx
            · rw [e, zup_s rfl] at hS2; omega
            · rw [zup_n e] at hS2
              by_cases e2 : u = mn
              · rw [e2, zup_s rfl] at hS2; omega
              · rw [zup_n e2] at hS2 ⊢; exact g12 u hu hS2
        · rw [zup_n hne, zup_s rfl]
        · rw [zup_s rfl]; omega
      · left
        refine ⟨by omega, ?_⟩
        simp only [hD, if_false, zob1]
        rw [if_neg (by decide)]; rfl
end yB
