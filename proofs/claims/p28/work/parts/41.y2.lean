def zpl (s : Nat) : Nat := if s < 8 then 0 else if s < 20 then 1 else if s < 22 then 2 else if s = 22 then 3 else 4
def zwh (s : Nat) : Nat := if s < 8 then s else if s < 20 then s - 8 else s - 20
def zc (S : Nat → Nat) (s n : Nat) : Nat := zsm (fun u => zid (S u = s)) n
def zb (S W : Nat → Nat) (s n : Nat) : Nat := zsm (fun u => zid (S u = s ∧ 32 ≤ W u)) n
def zk (S : Nat → Nat) (k n : Nat) : Nat := zsm (fun u => zid (zpl (S u) = k)) n
def zbest (S W : Nat → Nat) (s n : Nat) : Option Nat := zam (fun u => S u = s ∧ W u < 32) (fun u m => W u < W m) n
def zwors (S W : Nat → Nat) (s n : Nat) : Option Nat := zam (fun u => S u = s) (fun u m => W m < W u) n
def zlw (S W : Nat → Nat) (s bd : Nat) (x : Option Nat) (n : Nat) : Option Nat := zam (fun u => S u = s ∧ W u ≤ bd ∧ some u ≠ x) (fun u m => W u < W m) n
def zwsum (S W : Nat → Nat) (s n : Nat) : Nat := zsm (fun u => if S u = s then W u else 0) n
def zRC (n : Nat) (S W : Nat → Nat) (sp we ta : Nat → Int32) (num : Int32) : Prop :=
  n ≤ 60 ∧ num = nI n ∧ (∀ u, u < n → S u ≤ 23) ∧ (∀ u, W u ≤ 64) ∧ (∀ u, n ≤ u → W u = 0) ∧ (∀ u, u < n → sp u = nI (S u)) ∧ (∀ u, u < 60 → we u = nI (W u)) ∧ (∀ s, s < 24 → ta s = nI (zc S s n))
theorem zc_le (S : Nat → Nat) (s n : Nat) : zc S s n ≤ n := zsm_id n
theorem zk_le (S : Nat → Nat) (s n : Nat) : zk S s n ≤ n := zsm_id n
theorem zb_le (S W : Nat → Nat) (s n : Nat) : zb S W s n ≤ zc S s n := by
  induction n with
  | zero => exact Nat.le_refl _
  | succ n ih =>
    unfold zb zc at *
    simp only [zsm]
    have : zid (S n = s ∧ 32 ≤ W n) ≤ zid (S n = s) := by
      unfold zid
      by_cases h : S n = s <;> by_cases h2 : 32 ≤ W n <;> simp [h, h2]
    omega
theorem zpl_le (s : Nat) : zpl s ≤ 4 := by unfold zpl; split <;> (try split) <;> (try split) <;> (try split) <;> omega
theorem zwh_le {s : Nat} (h : s ≤ 23) : zwh s ≤ 11 := by unfold zwh; split <;> (try split) <;> omega
theorem zplwh {a s : Nat} (ha : a ≤ 23) (hs : s < 22) : (zpl a = zpl s ∧ (2 < zpl s ∨ zwh a = zwh s)) ↔ a = s := by
  unfold zpl zwh
  constructor
  · intro h; split at h <;> split at h <;> (try split at h) <;> (try split at h) <;> (try split at h) <;> (try split at h) <;> (try split at h) <;> (try split at h) <;> omega
  · rintro rfl; refine ⟨rfl, Or.inr rfl⟩
theorem zkind {s : Nat} (h : s ≤ 23) : f_X6_kindOf (nI s) = nI (zpl s) := by
  have : ∀ s, s < 24 → f_X6_kindOf (nI s) = nI (zpl s) := by decide
  exact this s (by omega)
theorem zown {s : Nat} (h : s < 22) : f_X6_ownerOf (nI s) = nI (zwh s) := by
  have : ∀ s, s < 22 → f_X6_ownerOf (nI s) = nI (zwh s) := by decide
  exact this s h
theorem zown2 {s : Nat} (h : s = 22 ∨ s = 23) : f_X6_ownerOf (nI s) = -9 := by
  rcases h with rfl | rfl <;> decide
theorem ziB {we : Nat → Int32} {W : Nat → Nat} {u : Nat} (hu : u < 60) (hw : we u = nI (W u)) (hW : W u ≤ 64) : f_X5_isBroken we (nI u) = if W u < 32 then 0 else 1 := by
  unfold f_X5_isBroken
  simp (disch := omega) only [zpl1, zpl2, zpl3, zob1, zob2, zob3, zlt, zeq, znn, zn9, zat, zput, zaddc, zag, zas, zl2, zl3, zl4, zl5, zl6, zl7, zl8, zl10, zl12, zl16, zl20, zl22, zl23, zl30, zl31, zl32, zl60, zl64, zl80, zl100, zl500, zl580, nI_1, z1I, zadd, if_true, if_false, hw]
section cls
variable {n : Nat} {S W : Nat → Nat} {sp we ta : Nat → Int32} {num : Int32}
theorem zNum (h : zRC n S W sp we ta num) {s : Nat} (hs : s < 24) : f_X5_numberAt ta (nI s) = nI (zc S s n) := by
  unfold f_X5_numberAt
  rw [zat hs (by decide)]
  exact h.2.2.2.2.2.2.2 s hs
theorem zk_sum {n k : Nat} {S : Nat → Nat} (hS : ∀ u, u < n → S u ≤ 23) : zsm (fun s => if zpl s = k then zc S s n else 0) 24 = zk S k n := by
  have h1 : zsm (fun s => if zpl s = k then zc S s n else 0) 24 = zsm (fun s => zsm (fun u => if zpl s = k then zid (S u = s) else 0) n) 24 := zsm_congr (fun s _ => by
    by_cases h : zpl s = k
    · simp only [h, if_true]; rfl
    · simp only [h, if_false]; rw [zsm_0])
  rw [h1, zsm_swap]
  refine zsm_congr (fun u hu => ?_)
  rw [zsm_one (k := S u) (by have := hS u hu; omega) (fun s _ hne => by simp only [zid]; rw [if_neg (c := S u = s) (fun h => hne h.symm)]; simp)]
  unfold zid
  simp
theorem zKind (h : zRC n S W sp we ta num) {Z k : Nat} (hZ : 100 < Z) (hk : k ≤ 4) : f_X5_numberOfKind Z ta (nI k) = some (nI (zk S k n)) := by
  unfold f_X5_numberOfKind
  have h1 := zloop0 (fun F (a : Int32) i => f_X5_numberOfKind_L4 ta (nI k) F a i) (fun i => nI (zsm (fun s => if zpl s = k then zc S s n else 0) i)) 24 (nI (zk S k n)) (F := Z) (by omega) (fun F => by
    show f_X5_numberOfKind_L4 ta (nI k) (F + 1) _ _ = _
    rw [f_X5_numberOfKind_L4, if_pos (by decide), zk_sum h.2.2.1]) (fun F i hi => by
    show f_X5_numberOfKind_L4 ta (nI k) (F + 1) _ _ = f_X5_numberOfKind_L4 ta (nI k) F _ _
    have := zpl_le i
    have e : ¬ 23 < i := by omega
    rw [f_X5_numberOfKind_L4]
    simp (disch := omega) only [zpl1, zpl2, zpl3, zob1, zob2, zob3, zlt, zeq, znn, zn9, zat, zput, zaddc, zag, zas, zl2, zl3, zl4, zl5, zl6, zl7, zl8, zl10, zl12, zl16, zl20, zl22, zl23, zl30, zl31, zl32, zl60, zl64, zl80, zl100, zl500, zl580, nI_1, z1I, zadd, if_true, if_false, zkind, zNum h, e]
    simp only [zsm]
    by_cases hc : zpl i = k <;> simp [hc])
  have h2 : f_X5_numberOfKind_L4 ta (nI k) Z 0 0 = some (nI (zk S k n)) := h1
  rw [h2]; rfl
theorem zNumBroken (h : zRC n S W sp we ta num) {Z : Nat} (hZ : 100 < Z) : f_X5_numberBroken Z sp we num = some (nI (zsm (fun u => zid (S u ≠ 23 ∧ 32 ≤ W u)) n)) := by
  obtain ⟨h0, rfl, h2, h3, h4, h5, h6, h7⟩ := h
  unfold f_X5_numberBroken
  have h1 := zloop0 (fun F (a : Int32) i => f_X5_numberBroken_L4 sp we (nI n) F a i) (fun i => nI (zsm (fun u => zid (S u ≠ 23 ∧ 32 ≤ W u)) i)) n (nI (zsm (fun u => zid (S u ≠ 23 ∧ 32 ≤ W u)) n)) (F := Z) (by omega) (fun F => by
    show f_X5_numberBroken_L4 sp we (nI n) (F + 1) _ _ = _
    rw [f_X5_numberBroken_L4]
    simp (disch := omega) only [zpl1, zpl2, zpl3, zob1, zob2, zob3, zlt, zeq, znn, zn9, zat, zput, zaddc, zag, zas, zl2, zl3, zl4, zl5, zl6, zl7, zl8, zl10, zl12, zl16, zl20, zl22, zl23, zl30, zl31, zl32, zl60, zl64, zl80, zl100, zl500, zl580, nI_1, z1I, zadd, if_true, if_false, Nat.lt_irrefl]) (fun F i hi => by
    show f_X5_numberBroken_L4 sp we (nI n) (F + 1) _ _ = f_X5_numberBroken_L4 sp we (nI n) F _ _
    have := h2 i hi; have := h3 i
    rw [f_X5_numberBroken_L4]
    simp (disch := omega) only [zpl1, zpl2, zpl3, zob1, zob2, zob3, zlt, zeq, znn, zn9, zat, zput, zaddc, zag, zas, zl2, zl3, zl4, zl5, zl6, zl7, zl8, zl10, zl12, zl16, zl20, zl22, zl23, zl30, zl31, zl32, zl60, zl64, zl80, zl100, zl500, zl580, nI_1, z1I, zadd, if_true, if_false, ziB (by omega) (h6 i (by omega)) (h3 i), h5, hi]
    simp only [zsm, zid]
    rcases Nat.lt_or_ge (W i) 32 with hc | hc
    · by_cases hd : S i = 23 <;> simp [hc, hd, Nat.not_le.mpr hc]
    · by_cases hd : S i = 23 <;> simp [hc, hd, Nat.not_lt.mpr hc])
  have h2 : f_X5_numberBroken_L4 sp we (nI n) Z 0 0 = some _ := h1
  rw [h2]; rfl
theorem zBrokenAt (h : zRC n S W sp we ta num) {Z s : Nat} (hZ : 100 < Z) (hs : s < 24) : f_X5_brokenAt Z sp we num (nI s) = some (nI (zb S W s n)) := by
  obtain ⟨h0, rfl, h2, h3, h4, h5, h6, h7⟩ := h
  unfold f_X5_brokenAt
  have h1 := zloop0 (fun F (a : Int32) i => f_X5_brokenAt_L4 sp we (nI n) (nI s) F a i) (fun i => nI (zb S W s i)) n (nI (zb S W s n)) (F := Z) (by omega) (fun F => by
    show f_X5_brokenAt_L4 sp we (nI n) (nI s) (F + 1) _ _ = _
    rw [f_X5_brokenAt_L4]
    simp (disch := omega) only [zpl1, zpl2, zpl3, zob1, zob2, zob3, zlt, zeq, znn, zn9, zat, zput, zaddc, zag, zas, zl2, zl3, zl4, zl5, zl6, zl7, zl8, zl10, zl12, zl16, zl20, zl22, zl23, zl30, zl31, zl32, zl60, zl64, zl80, zl100, zl500, zl580, nI_1, z1I, zadd, if_true, if_false, Nat.lt_irrefl]) (fun F i hi => by
    show f_X5_brokenAt_L4 sp we (nI n) (nI s) (F + 1) _ _ = f_X5_brokenAt_L4 sp we (nI n) (nI s) F _ _
    have := h2 i hi; have := h3 i
    rw [f_X5_brokenAt_L4]
    simp (disch := omega) only [zpl1, zpl2, zpl3, zob1, zob2, zob3, zlt, zeq, znn, zn9, zat, zput, zaddc, zag, zas, zl2, zl3, zl4, zl5, zl6, zl7, zl8, zl10, zl12, zl16, zl20, zl22, zl23, zl30, zl31, zl32, zl60, zl64, zl80, zl100, zl500, zl580, nI_1, z1I, zadd, if_true, if_false, ziB (by omega) (h6 i (by omega)) (h3 i), h5, hi]
    simp only [zb, zsm, zid]
    rcases Nat.lt_or_ge (W i) 32 with hc | hc
    · by_cases hd : S i = s <;> simp [hc, hd, Nat.not_le.mpr hc]
    · by_cases hd : S i = s <;> simp [hc, hd, Nat.not_lt.mpr hc])
  have h2 : f_X5_brokenAt_L4 sp we (nI n) (nI s) Z 0 0 = some _ := h1
  rw [h2]; rfl
theorem zWholeAt (h : zRC n S W sp we ta num) {Z s : Nat} (hZ : 100 < Z) (hs : s < 24) : f_X5_wholeAt Z sp we ta num (nI s) = some (nI (zc S s n - zb S W s n)) := by
  unfold f_X5_wholeAt
  rw [zBrokenAt h hZ hs, zob1, zNum h hs, zsub (zb_le S W s n)]
theorem zLeast (h : zRC n S W sp we ta num) {Z s bd : Nat} {x : Option Nat} (hx : ∀ m, x = some m → m < 60) (hZ : 100 < Z) (hs : s < 24) (hb : bd ≤ 64) : f_X5_leastWornAt Z sp we num (nI s) (nI bd) (zev (-9) x) = some (zev (-9) (zlw S W s bd x n)) := by
  obtain ⟨h0, rfl, h2, h3, h4, h5, h6, h7⟩ := h
  unfold f_X5_leastWornAt
  have h1 := zloop0 (fun F (a : Int32) i => f_X5_leastWornAt_L7 sp we (nI n) (nI s) (nI bd) (zev (-9) x) F a i) (fun i => zev (-9) (zlw S W s bd x i)) n (zev (-9) (zlw S W s bd x n)) (F := Z) (by omega) (fun F => by
    show f_X5_leastWornAt_L7 sp we (nI n) (nI s) (nI bd) (zev (-9) x) (F + 1) _ _ = _
    rw [f_X5_leastWornAt_L7]
    simp (disch := omega) only [zpl1, zpl2, zpl3, zob1, zob2, zob3, zlt, zeq, znn, zn9, zat, zput, zaddc, zag, zas, zl2, zl3, zl4, zl5, zl6, zl7, zl8, zl10, zl12, zl16, zl20, zl22, zl23, zl30, zl31, zl32, zl60, zl64, zl80, zl100, zl500, zl580, nI_1, z1I, zadd, if_true, if_false, Nat.lt_irrefl]) (fun F i hi => by
    show f_X5_leastWornAt_L7 sp we (nI n) (nI s) (nI bd) (zev (-9) x) (F + 1) _ _ = f_X5_leastWornAt_L7 sp we (nI n) (nI s) (nI bd) (zev (-9) x) F _ _
    have := h2 i hi; have := h3 i
    have hxi : (nI i = zev (-9) x) = (some i = x) := by
      cases x with
      | none => show (nI i = -9) = _; rw [zn9 (by omega)]; simp
      | some m => show (nI i = nI m) = _; rw [zeq (by omega) (by have := hx m rfl; omega)]; simp
    rw [f_X5_leastWornAt_L7]
    simp (disch := omega) only [zpl1, zpl2, zpl3, zob1, zob2, zob3, zlt, zeq, znn, zn9, zat, zput, zaddc, zag, zas, zl2, zl3, zl4, zl5, zl6, zl7, zl8, zl10, zl12, zl16, zl20, zl22, zl23, zl30, zl31, zl32, zl60, zl64, zl80, zl100, zl500, zl580, nI_1, z1I, zadd, if_true, if_false, h5, h6, hxi, hi]
    congr 1
    rw [show zlw S W s bd x (i + 1) = if (S i = s ∧ W i ≤ bd ∧ some i ≠ x) ∧ (∀ m ∈ zlw S W s bd x i, W i < W m) then some i else zlw S W s bd x i from rfl]
    have hm : ∀ m, zlw S W s bd x i = some m → m < i := fun m hm => (zam_ok hm).1
    generalize zlw S W s bd x i = o at hm ⊢
    by_cases hc : S i = s
    · by_cases hd : W i ≤ bd
      · by_cases he : some i = x
        · simp [hc, hd, he, Nat.not_lt.mpr hd]
        · cases o with
          | none => simp [hc, hd, he, Nat.not_lt.mpr hd, zev]
          | some m =>
            have hm1 := hm m rfl; have := h3 m
            simp only [zev]
            simp (disch := omega) only [zpl1, zpl2, zpl3, zob1, zob2, zob3, zlt, zeq, znn, zn9, zat, zput, zaddc, zag, zas, zl2, zl3, zl4, zl5, zl6, zl7, zl8, zl10, zl12, zl16, zl20, zl22, zl23, zl30, zl31, zl32, zl60, zl64, zl80, zl100, zl500, zl580, nI_1, z1I, zadd, if_true, if_false, h6]
            by_cases hf : W i < W m <;> simp [hc, hd, he, Nat.not_lt.mpr hd, hf]
      · simp [hc, hd, Nat.lt_of_not_le hd]
    · simp [hc])
  have h2 : f_X5_leastWornAt_L7 sp we (nI n) (nI s) (nI bd) (zev (-9) x) Z (-9) 0 = some _ := h1
  rw [h2]; rfl
theorem zBest (h : zRC n S W sp we ta num) {Z s : Nat} (hZ : 100 < Z) (hs : s < 24) : f_X5_bestAt Z sp we num (nI s) = some (zev (-9) (zbest S W s n)) := by
  unfold f_X5_bestAt
  have := zLeast h (x := none) (fun m hm => by cases hm) hZ hs (bd := 31) (by omega)
  have h2 : f_X5_leastWornAt Z sp we num (nI s) 31 (-9) = some (zev (-9) (zlw S W s 31 none n)) := this
  rw [h2, zob1]
  congr 2
  unfold zlw zbest
  exact zam_congr (fun i _ => by simp; omega) (fun i j _ _ => Iff.rfl)
theorem zWorst (h : zRC n S W sp we ta num) {Z s : Nat} (hZ : 100 < Z) (hs : s < 24) : f_X5_worstAt Z sp we num (nI s) = some (zev (-9) (zwors S W s n)) := by
  obtain ⟨h0, rfl, h2, h3, h4, h5, h6, h7⟩ := h
  unfold f_X5_worstAt
  have h1 := zloop0 (fun F (a : Int32) i => f_X5_worstAt_L5 sp we (nI n) (nI s) F a i) (fun i => zev (-9) (zwors S W s i)) n (zev (-9) (zwors S W s n)) (F := Z) (by omega) (fun F => by
    show f_X5_worstAt_L5 sp we (nI n) (nI s) (F + 1) _ _ = _
    rw [f_X5_worstAt_L5]
    simp (disch := omega) only [zpl1, zpl2, zpl3, zob1, zob2, zob3, zlt, zeq, znn, zn9, zat, zput, zaddc, zag, zas, zl2, zl3, zl4, zl5, zl6, zl7, zl8, zl10, zl12, zl16, zl20, zl22, zl23, zl30, zl31, zl32, zl60, zl64, zl80, zl100, zl500, zl580, nI_1, z1I, zadd, if_true, if_false, Nat.lt_irrefl]) (fun F i hi => by
    show f_X5_worstAt_L5 sp we (nI n) (nI s) (F + 1) _ _ = f_X5_worstAt_L5 sp we (nI n) (nI s) F _ _
    have := h2 i hi; have := h3 i
    rw [f_X5_worstAt_L5]
    simp (disch := omega) only [zpl1, zpl2, zpl3, zob1, zob2, zob3, zlt, zeq, znn, zn9, zat, zput, zaddc, zag, zas, zl2, zl3, zl4, zl5, zl6, zl7, zl8, zl10, zl12, zl16, zl20, zl22, zl23, zl30, zl31, zl32, zl60, zl64, zl80, zl100, zl500, zl580, nI_1, z1I, zadd, if_true, if_false, h5, h6, hi]
    congr 1
    rw [show zwors S W s (i + 1) = if (S i = s) ∧ (∀ m ∈ zwors S W s i, W m < W i) then some i else zwors S W s i from rfl]
    have hm : ∀ m, zwors S W s i = some m → m < i := fun m hm => (zam_ok hm).1
    generalize zwors S W s i = o at hm ⊢
    by_cases hc : S i = s
    · cases o with
      | none => simp [hc, zev]
      | some m =>
        have hm1 := hm m rfl; have := h3 m
        simp only [zev]
        simp (disch := omega) only [zpl1, zpl2, zpl3, zob1, zob2, zob3, zlt, zeq, znn, zn9, zat, zput, zaddc, zag, zas, zl2, zl3, zl4, zl5, zl6, zl7, zl8, zl10, zl12, zl16, zl20, zl22, zl23, zl30, zl31, zl32, zl60, zl64, zl80, zl100, zl500, zl580, nI_1, z1I, zadd, if_true, if_false, h6]
        by_cases hf : W m < W i <;> simp [hc, hf]
    · simp [hc])
  have h2 : f_X5_worstAt_L5 sp we (nI n) (nI s) Z (-9) 0 = some _ := h1
  rw [h2]; rfl
theorem zMean (h : zRC n S W sp we ta num) {Z s : Nat} (hZ : 100 < Z) (hs : s < 24) : f_X5_meanWearAt Z sp we ta num (nI s) = some (if zc S s n = 0 then 0 else (100 * nI (zwsum S W s n)) / (8 * nI (zc S s n))) := by
  have hN := zNum h hs
  obtain ⟨h0, rfl, h2, h3, h4, h5, h6, h7⟩ := h
  unfold f_X5_meanWearAt
  have h1 := zloop0 (fun F (a : Int32) i => f_X5_meanWearAt_L17 sp we (nI n) (nI s) F a i) (fun i => nI (zwsum S W s i)) n (nI (zwsum S W s n)) (F := Z) (by omega) (fun F => by
    show f_X5_meanWearAt_L17 sp we (nI n) (nI s) (F + 1) _ _ = _
    rw [f_X5_meanWearAt_L17]
    simp (disch := omega) only [zpl1, zpl2, zpl3, zob1, zob2, zob3, zlt, zeq, znn, zn9, zat, zput, zaddc, zag, zas, zl2, zl3, zl4, zl5, zl6, zl7, zl8, zl10, zl12, zl16, zl20, zl22, zl23, zl30, zl31, zl32, zl60, zl64, zl80, zl100, zl500, zl580, nI_1, z1I, zadd, if_true, if_false, Nat.lt_irrefl]) (fun F i hi => by
    show f_X5_meanWearAt_L17 sp we (nI n) (nI s) (F + 1) _ _ = f_X5_meanWearAt_L17 sp we (nI n) (nI s) F _ _
    have := h2 i hi; have := h3 i
    rw [f_X5_meanWearAt_L17]
    simp (disch := omega) only [zpl1, zpl2, zpl3, zob1, zob2, zob3, zlt, zeq, znn, zn9, zat, zput, zaddc, zag, zas, zl2, zl3, zl4, zl5, zl6, zl7, zl8, zl10, zl12, zl16, zl20, zl22, zl23, zl30, zl31, zl32, zl60, zl64, zl80, zl100, zl500, zl580, nI_1, z1I, zadd, if_true, if_false, h5, h6, hi]
    simp only [zwsum, zsm]
    by_cases hd : S i = s <;> simp [hd])
  have h2 : f_X5_meanWearAt_L17 sp we (nI n) (nI s) Z 0 0 = some _ := h1
  rw [hN, h2, zob1]
  have hl := zc_le S s n
  have e0 : (0 < nI (zc S s n)) = (0 < zc S s n) := zlt (a := 0) (by omega) (by omega)
  simp only [e0]
  by_cases hc : zc S s n = 0
  · rw [if_neg (by omega), if_pos hc]
  · rw [if_pos (by omega), if_neg hc]
    unfold odiv
    rw [show (8 : Int32) = nI 8 from rfl, zmul, if_neg]
    · rw [zob1]
    · intro q
      have := (nI_eq (a := 8 * zc S s n) (b := 0) (by omega) (by omega)).1 q
      omega
end cls
