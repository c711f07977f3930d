theorem zpl_lt {s : Nat} : zpl s ≤ 2 ↔ s < 22 := by
  unfold zpl; constructor
  · intro h; split at h <;> (try split at h) <;> (try split at h) <;> (try split at h) <;> omega
  · intro h; split <;> (try split) <;> omega
section mdl
variable {n : Nat} {S W : Nat → Nat} {q : Nat → Int32}
theorem zIsAt (h : zRM n S W q) {u s : Nat} {P X : Int32} (hu : u < n) (hs : s < 22) (hP : P = nI (zpl s)) (hX : X = nI (zwh s)) : f_X7_isAt q (nI u) P X = some (if S u = s then 1 else 0) := by
  subst hP hX
  obtain ⟨h0, h1, h2, h3, h4, h5, h6⟩ := h
  have := h2 u hu; have := zpl_le s; have := zpl_le (S u); have := zwh_le (s := s) (by omega); have := zwh_le (s := S u) (by omega)
  have hk := zplwh (a := S u) (s := s) (by omega) hs
  unfold f_X7_isAt
  simp (disch := omega) only [zpl1, zpl2, zpl3, zob1, zob2, zob3, zlt, zeq, znn, zn9, zat, zput, zaddc, zag, zas, zl2, zl3, zl4, zl5, zl7, zl8, zl10, zl11, zl12, zl16, zl20, zl22, zl23, zl31, zl32, zl60, zl64, zl80, zl100, zl121, zl181, zl241, zl249, zl261, zl273, zl285, zl297, zl309, zl321, zl322, zl323, zl324, zl325, zl326, zl327, zl500, zl61, zl328, zl329, zl657, zl986, nI_1, z1I, zadd, if_true, if_false, h4]
  by_cases hc : zpl (S u) = zpl s
  · have h22 : S u < 22 := by
      have := (zpl_lt (s := s)).2 hs
      exact zpl_lt.1 (by omega)
    simp only [hc, if_true]
    simp (disch := omega) only [zpl1, zpl2, zpl3, zob1, zob2, zob3, zlt, zeq, znn, zn9, zat, zput, zaddc, zag, zas, zl2, zl3, zl4, zl5, zl7, zl8, zl10, zl11, zl12, zl16, zl20, zl22, zl23, zl31, zl32, zl60, zl64, zl80, zl100, zl121, zl181, zl241, zl249, zl261, zl273, zl285, zl297, zl309, zl321, zl322, zl323, zl324, zl325, zl326, zl327, zl500, zl61, zl328, zl329, zl657, zl986, nI_1, z1I, zadd, if_true, if_false, h5 u hu h22]
    by_cases hd : zwh (S u) = zwh s
    · have : S u = s := hk.1 ⟨hc, Or.inr hd⟩
      simp [hd, this]
    · have h2' : ¬ 2 < zpl s := by have := (zpl_lt (s := s)).2 hs; omega
      have : ¬ S u = s := fun e => hd (by rw [e])
      simp [hd, this, h2']
  · have : ¬ S u = s := fun e => hc (by rw [e])
    simp [hc, this]
theorem ziBm (h : zRM n S W q) {u : Nat} (hu : u < n) : f_X7_isBroken q (nI u) = some (if W u < 32 then 0 else 1) := by
  obtain ⟨h0, h1, h2, h3, h4, h5, h6⟩ := h
  have := h3 u
  unfold f_X7_isBroken
  simp (disch := omega) only [zpl1, zpl2, zpl3, zob1, zob2, zob3, zlt, zeq, znn, zn9, zat, zput, zaddc, zag, zas, zl2, zl3, zl4, zl5, zl7, zl8, zl10, zl11, zl12, zl16, zl20, zl22, zl23, zl31, zl32, zl60, zl64, zl80, zl100, zl121, zl181, zl241, zl249, zl261, zl273, zl285, zl297, zl309, zl321, zl322, zl323, zl324, zl325, zl326, zl327, zl500, zl61, zl328, zl329, zl657, zl986, nI_1, z1I, zadd, if_true, if_false, h6]
  by_cases hc : W u < 32 <;> simp [hc]
theorem zMany (h : zRM n S W q) {Z s : Nat} {P X : Int32} (hZ : 100 < Z) (hs : s < 22) (hP : P = nI (zpl s)) (hX : X = nI (zwh s)) : f_X7_manyAt Z q P X = some (nI (zc S s n)) := by
  have hI := fun u (hu : u < n) => zIsAt h hu hs hP hX
  obtain ⟨h0, h1, h2, h3, h4, h5, h6⟩ := h
  unfold f_X7_manyAt
  have h1 := zloop0 (fun F (a : Int32) i => f_X7_manyAt_L5 q P X F a i) (fun i => nI (zc S s i)) n (nI (zc S s n)) (F := Z) (by omega) (fun F => by
    show f_X7_manyAt_L5 q P X (F + 1) _ _ = _
    rw [f_X7_manyAt_L5, show (0 : Int32) = nI 0 from rfl]
    simp (disch := omega) only [zpl1, zpl2, zpl3, zob1, zob2, zob3, zlt, zeq, znn, zn9, zat, zput, zaddc, zag, zas, zl2, zl3, zl4, zl5, zl7, zl8, zl10, zl11, zl12, zl16, zl20, zl22, zl23, zl31, zl32, zl60, zl64, zl80, zl100, zl121, zl181, zl241, zl249, zl261, zl273, zl285, zl297, zl309, zl321, zl322, zl323, zl324, zl325, zl326, zl327, zl500, zl61, zl328, zl329, zl657, zl986, nI_1, z1I, zadd, if_true, if_false, h1, Nat.lt_irrefl]) (fun F i hi => by
    show f_X7_manyAt_L5 q P X (F + 1) _ _ = f_X7_manyAt_L5 q P X F _ _
    rw [f_X7_manyAt_L5, show aget 986 q 0 = some (q 0) from rfl]
    simp (disch := omega) only [zpl1, zpl2, zpl3, zob1, zob2, zob3, zlt, zeq, znn, zn9, zat, zput, zaddc, zag, zas, zl2, zl3, zl4, zl5, zl7, zl8, zl10, zl11, zl12, zl16, zl20, zl22, zl23, zl31, zl32, zl60, zl64, zl80, zl100, zl121, zl181, zl241, zl249, zl261, zl273, zl285, zl297, zl309, zl321, zl322, zl323, zl324, zl325, zl326, zl327, zl500, zl61, zl328, zl329, zl657, zl986, nI_1, z1I, zadd, if_true, if_false, h1, hi, hI]
    simp only [zc, zsm, zid]
    by_cases hd : S i = s <;> simp [hd, nI_1])
  have h2 : f_X7_manyAt_L5 q P X Z 0 0 = some _ := h1
  rw [h2]; rfl
theorem zBrk (h : zRM n S W q) {Z s : Nat} {P X : Int32} (hZ : 100 < Z) (hs : s < 22) (hP : P = nI (zpl s)) (hX : X = nI (zwh s)) : f_X7_brokenAt Z q P X = some (nI (zb S W s n)) := by
  have hI := fun u (hu : u < n) => zIsAt h hu hs hP hX
  have hB := fun u (hu : u < n) => ziBm h hu
  obtain ⟨h0, h1, h2, h3, h4, h5, h6⟩ := h
  unfold f_X7_brokenAt
  have h1 := zloop0 (fun F (a : Int32) i => f_X7_brokenAt_L5 q P X F a i) (fun i => nI (zb S W s i)) n (nI (zb S W s n)) (F := Z) (by omega) (fun F => by
    show f_X7_brokenAt_L5 q P X (F + 1) _ _ = _
    rw [f_X7_brokenAt_L5, show aget 986 q 0 = some (q 0) from rfl]
    simp (disch := omega) only [zpl1, zpl2, zpl3, zob1, zob2, zob3, zlt, zeq, znn, zn9, zat, zput, zaddc, zag, zas, zl2, zl3, zl4, zl5, zl7, zl8, zl10, zl11, zl12, zl16, zl20, zl22, zl23, zl31, zl32, zl60, zl64, zl80, zl100, zl121, zl181, zl241, zl249, zl261, zl273, zl285, zl297, zl309, zl321, zl322, zl323, zl324, zl325, zl326, zl327, zl500, zl61, zl328, zl329, zl657, zl986, nI_1, z1I, zadd, if_true, if_false, h1, Nat.lt_irrefl]) (fun F i hi => by
    show f_X7_brokenAt_L5 q P X (F + 1) _ _ = f_X7_brokenAt_L5 q P X F _ _
    rw [f_X7_brokenAt_L5, show aget 986 q 0 = some (q 0) from rfl]
    simp (disch := omega) only [zpl1, zpl2, zpl3, zob1, zob2, zob3, zlt, zeq, znn, zn9, zat, zput, zaddc, zag, zas, zl2, zl3, zl4, zl5, zl7, zl8, zl10, zl11, zl12, zl16, zl20, zl22, zl23, zl31, zl32, zl60, zl64, zl80, zl100, zl121, zl181, zl241, zl249, zl261, zl273, zl285, zl297, zl309, zl321, zl322, zl323, zl324, zl325, zl326, zl327, zl500, zl61, zl328, zl329, zl657, zl986, nI_1, z1I, zadd, if_true, if_false, h1, hi, hI, hB]
    simp only [zb, zsm, zid]
    rcases Nat.lt_or_ge (W i) 32 with hc | hc
    · by_cases hd : S i = s <;> simp [hc, hd, Nat.not_le.mpr hc, nI_1, zob1]
    · by_cases hd : S i = s <;> simp [hc, hd, Nat.not_lt.mpr hc, nI_1, zob1])
  have h2 : f_X7_brokenAt_L5 q P X Z 0 0 = some _ := h1
  rw [h2]; rfl
theorem zIn (h : zRM n S W q) {Z k : Nat} (hZ : 100 < Z) (hk : k ≤ 4) : f_X7_manyIn Z q (nI k) = some (nI (zk S k n)) := by
  obtain ⟨h0, h1, h2, h3, h4, h5, h6⟩ := h
  unfold f_X7_manyIn
  have h1 := zloop0 (fun F (a : Int32) i => f_X7_manyIn_L4 q (nI k) F a i) (fun i => nI (zk S k i)) n (nI (zk S k n)) (F := Z) (by omega) (fun F => by
    show f_X7_manyIn_L4 q (nI k) (F + 1) _ _ = _
    rw [f_X7_manyIn_L4, show aget 986 q 0 = some (q 0) from rfl]
    simp (disch := omega) only [zpl1, zpl2, zpl3, zob1, zob2, zob3, zlt, zeq, znn, zn9, zat, zput, zaddc, zag, zas, zl2, zl3, zl4, zl5, zl7, zl8, zl10, zl11, zl12, zl16, zl20, zl22, zl23, zl31, zl32, zl60, zl64, zl80, zl100, zl121, zl181, zl241, zl249, zl261, zl273, zl285, zl297, zl309, zl321, zl322, zl323, zl324, zl325, zl326, zl327, zl500, zl61, zl328, zl329, zl657, zl986, nI_1, z1I, zadd, if_true, if_false, h1, Nat.lt_irrefl]) (fun F i hi => by
    show f_X7_manyIn_L4 q (nI k) (F + 1) _ _ = f_X7_manyIn_L4 q (nI k) F _ _
    rw [f_X7_manyIn_L4, show aget 986 q 0 = some (q 0) from rfl]
    have := zpl_le (S i)
    simp (disch := omega) only [zpl1, zpl2, zpl3, zob1, zob2, zob3, zlt, zeq, znn, zn9, zat, zput, zaddc, zag, zas, zl2, zl3, zl4, zl5, zl7, zl8, zl10, zl11, zl12, zl16, zl20, zl22, zl23, zl31, zl32, zl60, zl64, zl80, zl100, zl121, zl181, zl241, zl249, zl261, zl273, zl285, zl297, zl309, zl321, zl322, zl323, zl324, zl325, zl326, zl327, zl500, zl61, zl328, zl329, zl657, zl986, nI_1, z1I, zadd, if_true, if_false, h1, hi, h4]
    simp only [zk, zsm, zid]
    by_cases hd : zpl (S i) = k <;> simp [hd, nI_1])
  have h2 : f_X7_manyIn_L4 q (nI k) Z 0 0 = some _ := h1
  rw [h2]; rfl
theorem zBestM (h : zRM n S W q) {Z s : Nat} (hZ : 100 < Z) (hs : s < 8) : f_X7_bestOf Z q (nI s) = some (zev (-1) (zbest S W s n)) := by
  have hI := fun u (hu : u < n) => zIsAt (P := 0) (X := nI s) h hu (s := s) (by omega) (by unfold zpl; rw [if_pos hs]; rfl) (by unfold zwh; rw [if_pos hs])
  have hB := fun u (hu : u < n) => ziBm h hu
  obtain ⟨h0, h1, h2, h3, h4, h5, h6⟩ := h
  unfold f_X7_bestOf
  have h1 := zloop0 (fun F (a : Int32) i => f_X7_bestOf_L4 q (nI s) F a i) (fun i => zev (-1) (zbest S W s i)) n (zev (-1) (zbest S W s n)) (F := Z) (by omega) (fun F => by
    show f_X7_bestOf_L4 q (nI s) (F + 1) _ _ = _
    rw [f_X7_bestOf_L4, show aget 986 q 0 = some (q 0) from rfl]
    simp (disch := omega) only [zpl1, zpl2, zpl3, zob1, zob2, zob3, zlt, zeq, znn, zn9, zat, zput, zaddc, zag, zas, zl2, zl3, zl4, zl5, zl7, zl8, zl10, zl11, zl12, zl16, zl20, zl22, zl23, zl31, zl32, zl60, zl64, zl80, zl100, zl121, zl181, zl241, zl249, zl261, zl273, zl285, zl297, zl309, zl321, zl322, zl323, zl324, zl325, zl326, zl327, zl500, zl61, zl328, zl329, zl657, zl986, nI_1, z1I, zadd, if_true, if_false, h1, Nat.lt_irrefl]) (fun F i hi => by
    show f_X7_bestOf_L4 q (nI s) (F + 1) _ _ = f_X7_bestOf_L4 q (nI s) F _ _
    rw [f_X7_bestOf_L4, show aget 986 q 0 = some (q 0) from rfl]
    have := h3 i
    simp (disch := omega) only [zpl1, zpl2, zpl3, zob1, zob2, zob3, zlt, zeq, znn, zn9, zat, zput, zaddc, zag, zas, zl2, zl3, zl4, zl5, zl7, zl8, zl10, zl11, zl12, zl16, zl20, zl22, zl23, zl31, zl32, zl60, zl64, zl80, zl100, zl121, zl181, zl241, zl249, zl261, zl273, zl285, zl297, zl309, zl321, zl322, zl323, zl324, zl325, zl326, zl327, zl500, zl61, zl328, zl329, zl657, zl986, nI_1, z1I, zadd, if_true, if_false, h1, hi, hI, hB]
    rw [show zbest S W s (i + 1) = if (S i = s ∧ W i < 32) ∧ (∀ m ∈ zbest S W s i, W i < W m) then some i else zbest S W s i from rfl]
    have hm : ∀ m, zbest S W s i = some m → m < i := fun m hm => (zam_ok hm).1
    generalize zbest S W s i = o at hm ⊢
    by_cases hc : S i = s
    · by_cases hd : W i < 32
      · cases o with
        | none => simp [hc, hd, zev, zob1]
        | some m =>
          have hm1 := hm m rfl; have := h3 m
          simp only [zev, hc, hd]
          simp (disch := omega) only [zpl1, zpl2, zpl3, zob1, zob2, zob3, zlt, zeq, znn, zn9, zat, zput, zaddc, zag, zas, zl2, zl3, zl4, zl5, zl7, zl8, zl10, zl11, zl12, zl16, zl20, zl22, zl23, zl31, zl32, zl60, zl64, zl80, zl100, zl121, zl181, zl241, zl249, zl261, zl273, zl285, zl297, zl309, zl321, zl322, zl323, zl324, zl325, zl326, zl327, zl500, zl61, zl328, zl329, zl657, zl986, nI_1, z1I, zadd, if_true, if_false, h6]
          by_cases hf : W i < W m <;> simp [hf, zob1, zpl1]
      · simp [hc, hd, zob1, zpl1]
    · simp [hc, zob1, zpl1])
  have h2 : f_X7_bestOf_L4 q (nI s) Z (-1) 0 = some _ := h1
  rw [h2]; rfl
theorem zWorM (h : zRM n S W q) {Z s : Nat} (hZ : 100 < Z) (hs : s < 8) : f_X7_worstOf Z q (nI s) = some (zev (-1) (zwors S W s n)) := by
  have hI := fun u (hu : u < n) => zIsAt (P := 0) (X := nI s) h hu (s := s) (by omega) (by unfold zpl; rw [if_pos hs]; rfl) (by unfold zwh; rw [if_pos hs])
  obtain ⟨h0, h1, h2, h3, h4, h5, h6⟩ := h
  unfold f_X7_worstOf
  have h1 := zloop0 (fun F (a : Int32) i => f_X7_worstOf_L4 q (nI s) F a i) (fun i => zev (-1) (zwors S W s i)) n (zev (-1) (zwors S W s n)) (F := Z) (by omega) (fun F => by
    show f_X7_worstOf_L4 q (nI s) (F + 1) _ _ = _
    rw [f_X7_worstOf_L4, show aget 986 q 0 = some (q 0) from rfl]
    simp (disch := omega) only [zpl1, zpl2, zpl3, zob1, zob2, zob3, zlt, zeq, znn, zn9, zat, zput, zaddc, zag, zas, zl2, zl3, zl4, zl5, zl7, zl8, zl10, zl11, zl12, zl16, zl20, zl22, zl23, zl31, zl32, zl60, zl64, zl80, zl100, zl121, zl181, zl241, zl249, zl261, zl273, zl285, zl297, zl309, zl321, zl322, zl323, zl324, zl325, zl326, zl327, zl500, zl61, zl328, zl329, zl657, zl986, nI_1, z1I, zadd, if_true, if_false, h1, Nat.lt_irrefl]) (fun F i hi => by
    show f_X7_worstOf_L4 q (nI s) (F + 1) _ _ = f_X7_worstOf_L4 q (nI s) F _ _
    rw [f_X7_worstOf_L4, show aget 986 q 0 = some (q 0) from rfl]
    have := h3 i
    simp (disch := omega) only [zpl1, zpl2, zpl3, zob1, zob2, zob3, zlt, zeq, znn, zn9, zat, zput, zaddc, zag, zas, zl2, zl3, zl4, zl5, zl7, zl8, zl10, zl11, zl12, zl16, zl20, zl22, zl23, zl31, zl32, zl60, zl64, zl80, zl100, zl121, zl181, zl241, zl249, zl261, zl273, zl285, zl297, zl309, zl321, zl322, zl323, zl324, zl325, zl326, zl327, zl500, zl61, zl328, zl329, zl657, zl986, nI_1, z1I, zadd, if_true, if_false, h1, hi, hI]
    rw [show zwors S W s (i + 1) = if (S i = s) ∧ (∀ m ∈ zwors S W s i, W m < W i) then some i else zwors S W s i from rfl]
    have hm : ∀ m, zwors S W s i = some m → m < i := fun m hm => (zam_ok hm).1
    generalize zwors S W s i = o at hm ⊢
    by_cases hc : S i = s
    · cases o with
      | none => simp [hc, zev, zob1]
      | some m =>
        have hm1 := hm m rfl; have := h3 m
        simp only [zev, hc]
        simp (disch := omega) only [zpl1, zpl2, zpl3, zob1, zob2, zob3, zlt, zeq, znn, zn9, zat, zput, zaddc, zag, zas, zl2, zl3, zl4, zl5, zl7, zl8, zl10, zl11, zl12, zl16, zl20, zl22, zl23, zl31, zl32, zl60, zl64, zl80, zl100, zl121, zl181, zl241, zl249, zl261, zl273, zl285, zl297, zl309, zl321, zl322, zl323, zl324, zl325, zl326, zl327, zl500, zl61, zl328, zl329, zl657, zl986, nI_1, z1I, zadd, if_true, if_false, h6]
        by_cases hf : W m < W i <;> simp [hf, zob1, zpl1]
    · simp [hc, zob1, zpl1])
  have h2 : f_X7_worstOf_L4 q (nI s) Z (-1) 0 = some _ := h1
  rw [h2]; rfl
theorem zLeastM (h : zRM n S W q) {Z : Nat} {x : Option Nat} (hx : ∀ m, x = some m → m < 60) (hZ : 100 < Z) : f_X7_leastInShop Z q (zev (-1) x) = some (zev (-1) (zlw S W 22 64 x n)) := by
  obtain ⟨h0, h1, h2, h3, h4, h5, h6⟩ := h
  unfold f_X7_leastInShop
  have h1 := zloop0 (fun F (a : Int32) i => f_X7_leastInShop_L4 q (zev (-1) x) F a i) (fun i => zev (-1) (zlw S W 22 64 x i)) n (zev (-1) (zlw S W 22 64 x n)) (F := Z) (by omega) (fun F => by
    show f_X7_leastInShop_L4 q (zev (-1) x) (F + 1) _ _ = _
    rw [f_X7_leastInShop_L4, show aget 986 q 0 = some (q 0) from rfl]
    simp (disch := omega) only [zpl1, zpl2, zpl3, zob1, zob2, zob3, zlt, zeq, znn, zn9, zat, zput, zaddc, zag, zas, zl2, zl3, zl4, zl5, zl7, zl8, zl10, zl11, zl12, zl16, zl20, zl22, zl23, zl31, zl32, zl60, zl64, zl80, zl100, zl121, zl181, zl241, zl249, zl261, zl273, zl285, zl297, zl309, zl321, zl322, zl323, zl324, zl325, zl326, zl327, zl500, zl61, zl328, zl329, zl657, zl986, nI_1, z1I, zadd, if_true, if_false, h1, Nat.lt_irrefl]) (fun F i hi => by
    show f_X7_leastInShop_L4 q (zev (-1) x) (F + 1) _ _ = f_X7_leastInShop_L4 q (zev (-1) x) F _ _
    rw [f_X7_leastInShop_L4, show aget 986 q 0 = some (q 0) from rfl]
    have hW := h3 i; have := h2 i hi; have := zpl_le (S i)
    have hxi : (nI i = zev (-1) x) = (some i = x) := by
      cases x with
      | none => show (nI i = -1) = _; rw [zn1 (by omega)]; simp
      | some m => show (nI i = nI m) = _; rw [zeq (by omega) (by have := hx m rfl; omega)]; simp
    have h22 : (zpl (S i) = 3) = (S i = 22) := by
      apply propext; unfold zpl; constructor
      · intro hh; split at hh <;> (try split at hh) <;> (try split at hh) <;> (try split at hh) <;> omega
      · intro hh; rw [hh]; rfl
    simp (disch := omega) only [zpl1, zpl2, zpl3, zob1, zob2, zob3, zlt, zeq, znn, zn9, zat, zput, zaddc, zag, zas, zl2, zl3, zl4, zl5, zl7, zl8, zl10, zl11, zl12, zl16, zl20, zl22, zl23, zl31, zl32, zl60, zl64, zl80, zl100, zl121, zl181, zl241, zl249, zl261, zl273, zl285, zl297, zl309, zl321, zl322, zl323, zl324, zl325, zl326, zl327, zl500, zl61, zl328, zl329, zl657, zl986, nI_1, z1I, zadd, if_true, if_false, h1, hi, h4, hxi, h22]
    rw [show zlw S W 22 64 x (i + 1) = if (S i = 22 ∧ W i ≤ 64 ∧ some i ≠ x) ∧ (∀ m ∈ zlw S W 22 64 x i, W i < W m) then some i else zlw S W 22 64 x i from rfl]
    have hm : ∀ m, zlw S W 22 64 x i = some m → m < i := fun m hm => (zam_ok hm).1
    generalize zlw S W 22 64 x i = o at hm ⊢
    by_cases hc : S i = 22
    · by_cases he : some i = x
      · simp [hc, he, zob1, zpl1]
      · cases o with
        | none => simp [hc, he, zev, zob1, zpl1, hW]
        | some m =>
          have hm1 := hm m rfl; have := h3 m
          simp only [zev, hc, he]
          simp (disch := omega) only [zpl1, zpl2, zpl3, zob1, zob2, zob3, zlt, zeq, znn, zn9, zat, zput, zaddc, zag, zas, zl2, zl3, zl4, zl5, zl7, zl8, zl10, zl11, zl12, zl16, zl20, zl22, zl23, zl31, zl32, zl60, zl64, zl80, zl100, zl121, zl181, zl241, zl249, zl261, zl273, zl285, zl297, zl309, zl321, zl322, zl323, zl324, zl325, zl326, zl327, zl500, zl61, zl328, zl329, zl657, zl986, nI_1, z1I, zadd, if_true, if_false, h6]
          by_cases hf : W i < W m <;> simp [hf, zob1, zpl1, hW, he]
    · simp [hc, zob1, zpl1])
  have h2 : f_X7_leastInShop_L4 q (zev (-1) x) Z (-1) 0 = some _ := h1
  rw [h2]; rfl
theorem zMeanM (h : zRM n S W q) {Z s : Nat} (hZ : 100 < Z) (hs : s < 8) : f_X7_meanOf Z q (nI s) = some (if zc S s n = 0 then 0 else (100 * nI (zwsum S W s n)) / (8 * nI (zc S s n))) := by
  have hI := fun u (hu : u < n) => zIsAt (P := 0) (X := nI s) h hu (s := s) (by omega) (by unfold zpl; rw [if_pos hs]; rfl) (by unfold zwh; rw [if_pos hs])
  have hN := zMany (P := 0) (X := nI s) h hZ (s := s) (by omega) (by unfold zpl; rw [if_pos hs]; rfl) (by unfold zwh; rw [if_pos hs])
  obtain ⟨h0, h1, h2, h3, h4, h5, h6⟩ := h
  unfold f_X7_meanOf
  have h1 := zloop0 (fun F (a : Int32) i => f_X7_meanOf_L4 q (nI s) F a i) (fun i => nI (zwsum S W s i)) n (nI (zwsum S W s n)) (F := Z) (by omega) (fun F => by
    show f_X7_meanOf_L4 q (nI s) (F + 1) _ _ = _
    rw [f_X7_meanOf_L4, show aget 986 q 0 = some (q 0) from rfl]
    simp (disch := omega) only [zpl1, zpl2, zpl3, zob1, zob2, zob3, zlt, zeq, znn, zn9, zat, zput, zaddc, zag, zas, zl2, zl3, zl4, zl5, zl7, zl8, zl10, zl11, zl12, zl16, zl20, zl22, zl23, zl31, zl32, zl60, zl64, zl80, zl100, zl121, zl181, zl241, zl249, zl261, zl273, zl285, zl297, zl309, zl321, zl322, zl323, zl324, zl325, zl326, zl327, zl500, zl61, zl328, zl329, zl657, zl986, nI_1, z1I, zadd, if_true, if_false, h1, Nat.lt_irrefl]) (fun F i hi => by
    show f_X7_meanOf_L4 q (nI s) (F + 1) _ _ = f_X7_meanOf_L4 q (nI s) F _ _
    rw [f_X7_meanOf_L4, show aget 986 q 0 = some (q 0) from rfl]
    have := h3 i
    simp (disch := omega) only [zpl1, zpl2, zpl3, zob1, zob2, zob3, zlt, zeq, znn, zn9, zat, zput, zaddc, zag, zas, zl2, zl3, zl4, zl5, zl7, zl8, zl10, zl11, zl12, zl16, zl20, zl22, zl23, zl31, zl32, zl60, zl64, zl80, zl100, zl121, zl181, zl241, zl249, zl261, zl273, zl285, zl297, zl309, zl321, zl322, zl323, zl324, zl325, zl326, zl327, zl500, zl61, zl328, zl329, zl657, zl986, nI_1, z1I, zadd, if_true, if_false, h1, hi, hI, h6]
    simp only [zwsum, zsm]
    by_cases hd : S i = s <;> simp [hd, zob1, zadd])
  have h2 : f_X7_meanOf_L4 q (nI s) Z 0 0 = some _ := h1
  rw [h2, zob1, hN, zob1]
  have hl := zc_le S s n
  have e0 : (nI (zc S s n) = 0) = (zc S s n = 0) := zeq (b := 0) (by omega) (by omega)
  simp only [e0]
  by_cases hc : zc S s n = 0
  · rw [if_pos hc, if_pos hc]
  · rw [if_neg hc, if_neg hc]
    unfold odiv
    rw [show (8 : Int32) = nI 8 from rfl, zmul, if_neg]
    · rw [zob1]
    · intro q
      have := (nI_eq (a := 8 * zc S s n) (b := 0) (by omega) (by omega)).1 q
      omega
theorem zBrkOnes (h : zRM n S W q) {Z : Nat} (hZ : 100 < Z) : f_X7_brokenOnes Z q = some (nI (zsm (fun u => zid (S u ≠ 23 ∧ 32 ≤ W u)) n)) := by
  have hB := fun u (hu : u < n) => ziBm h hu
  obtain ⟨h0, h1, h2, h3, h4, h5, h6⟩ := h
  unfold f_X7_brokenOnes
  have h1 := zloop0 (fun F (a : Int32) i => f_X7_brokenOnes_L4 q F a i) (fun i => nI (zsm (fun u => zid (S u ≠ 23 ∧ 32 ≤ W u)) i)) n (nI (zsm (fun u => zid (S u ≠ 23 ∧ 32 ≤ W u)) n)) (F := Z) (by omega) (fun F => by
    show f_X7_brokenOnes_L4 q (F + 1) _ _ = _
    rw [f_X7_brokenOnes_L4, show aget 986 q 0 = some (q 0) from rfl]
    simp (disch := omega) only [zpl1, zpl2, zpl3, zob1, zob2, zob3, zlt, zeq, znn, zn9, zat, zput, zaddc, zag, zas, zl2, zl3, zl4, zl5, zl7, zl8, zl10, zl11, zl12, zl16, zl20, zl22, zl23, zl31, zl32, zl60, zl64, zl80, zl100, zl121, zl181, zl241, zl249, zl261, zl273, zl285, zl297, zl309, zl321, zl322, zl323, zl324, zl325, zl326, zl327, zl500, zl61, zl328, zl329, zl657, zl986, nI_1, z1I, zadd, if_true, if_false, h1, Nat.lt_irrefl]) (fun F i hi => by
    show f_X7_brokenOnes_L4 q (F + 1) _ _ = f_X7_brokenOnes_L4 q F _ _
    rw [f_X7_brokenOnes_L4, show aget 986 q 0 = some (q 0) from rfl]
    have := h2 i hi; have := zpl_le (S i)
    have h23 : (zpl (S i) = 4) = (S i = 23) := by
      apply propext; unfold zpl; constructor
      · intro hh; split at hh <;> (try split at hh) <;> (try split at hh) <;> (try split at hh) <;> omega
      · intro hh; rw [hh]; rfl
    simp (disch := omega) only [zpl1, zpl2, zpl3, zob1, zob2, zob3, zlt, zeq, znn, zn9, zat, zput, zaddc, zag, zas, zl2, zl3, zl4, zl5, zl7, zl8, zl10, zl11, zl12, zl16, zl20, zl22, zl23, zl31, zl32, zl60, zl64, zl80, zl100, zl121, zl181, zl241, zl249, zl261, zl273, zl285, zl297, zl309, zl321, zl322, zl323, zl324, zl325, zl326, zl327, zl500, zl61, zl328, zl329, zl657, zl986, nI_1, z1I, zadd, if_true, if_false, h1, hi, h4, h23, hB]
    simp only [zsm, zid]
    rcases Nat.lt_or_ge (W i) 32 with hc | hc
    · by_cases hd : S i = 23 <;> simp [hc, hd, Nat.not_le.mpr hc, nI_1, zob1]
    · by_cases hd : S i = 23 <;> simp [hc, hd, Nat.not_lt.mpr hc, nI_1, zob1])
  have h2 : f_X7_brokenOnes_L4 q Z 0 0 = some _ := h1
  rw [h2]; rfl
theorem zRoom (h : zRM n S W q) {Z s : Nat} (hZ : 100 < Z) (hs : s < 8) : f_X7_roomOf Z q (nI s) = some (q (241 + s) - nI (zc S s n)) := by
  unfold f_X7_roomOf
  rw [zMany h hZ (s := s) (by omega) (by unfold zpl; rw [if_pos hs]; rfl) (by unfold zwh; rw [if_pos hs])]
  simp (disch := omega) only [zpl1, zpl2, zpl3, zob1, zob2, zob3, zlt, zeq, znn, zn9, zat, zput, zaddc, zag, zas, zl2, zl3, zl4, zl5, zl7, zl8, zl10, zl11, zl12, zl16, zl20, zl22, zl23, zl31, zl32, zl60, zl64, zl80, zl100, zl121, zl181, zl241, zl249, zl261, zl273, zl285, zl297, zl309, zl321, zl322, zl323, zl324, zl325, zl326, zl327, zl500, zl61, zl328, zl329, zl657, zl986, nI_1, z1I, zadd, if_true, if_false]
theorem zCan (h : zRM n S W q) {Z : Nat} {x : Int32} (hZ : 100 < Z) : f_X7_canSpend Z q x = some (if q 321 - 10 * nI (zk S 1 n) < x then 0 else 1) := by
  unfold f_X7_canSpend
  rw [show f_X7_manyIn Z q 1 = some (nI (zk S 1 n)) from zIn h hZ (k := 1) (by omega), show aget 986 q 321 = some (q 321) from rfl, zob1, zob1]
  split <;> rfl
end mdl
