theorem zRT.fr {c : CV} {q q' : Nat → Int32} (a : zRT c q) (e : ∀ j, j < 328 → q' j = q j) : zRT c q' := by
  obtain ⟨n, S, W, H, T, C, P, O, h, r, hh, a⟩ := a
  exact ⟨n, S, W, H, T, C, P, O, h, r, hh, a.fr e⟩
def zSt (c s0 s1 : CV) (k0 k1 : Int32) (q : Nat → Int32) : Prop := zRT c q ∧ q 328 = k0 ∧ q 657 = k1 ∧ (k0 = 0 ∨ k0 = 1) ∧ (k1 = 0 ∨ k1 = 1) ∧ (k0 = 1 → zRT s0 (fun j => q (329 + j))) ∧ (k1 = 1 → zRT s1 (fun j => q (658 + j)))
theorem zSt.fr {c s0 s1 : CV} {k0 k1 : Int32} {q q' : Nat → Int32} (a : zSt c s0 s1 k0 k1 q) (e : ∀ j, j < 986 → q' j = q j) : zSt c s0 s1 k0 k1 q' := by
  obtain ⟨a1, a2, a3, a4, a5, a6, a7⟩ := a
  exact ⟨a1.fr (fun j hj => e j (by omega)), by rw [e _ (by omega)]; exact a2, by rw [e _ (by omega)]; exact a3, a4, a5, fun h => (a6 h).fr (fun j hj => e _ (by omega)), fun h => (a7 h).fr (fun j hj => e _ (by omega))⟩
theorem zSt.core {c c' s0 s1 : CV} {k0 k1 : Int32} {q q' : Nat → Int32} (a : zSt c s0 s1 k0 k1 q) (b : zRT c' q') (e : ∀ j, 328 ≤ j → q' j = q j) : zSt c' s0 s1 k0 k1 q' := by
  obtain ⟨a1, a2, a3, a4, a5, a6, a7⟩ := a
  exact ⟨b, by rw [e _ (by omega)]; exact a2, by rw [e _ (by omega)]; exact a3, a4, a5, fun h => (a6 h).fr (fun j hj => e _ (by omega)), fun h => (a7 h).fr (fun j hj => e _ (by omega))⟩
def zSV (s : SV) (q : Nat → Int32) : Prop := zSt s.1 s.2.1 s.2.2.1 s.2.2.2.1 s.2.2.2.2 q
theorem zSV.cp {o t : SV} {q : Nat → Int32} (a : zSV o q) : zSV (hCp o t) q := by
  obtain ⟨a1, a2, a3, a4, a5, a6, a7⟩ := a
  refine ⟨a1, a2, a3, a4, a5, fun h => ?_, fun h => ?_⟩
  · have h' : o.2.2.2.1 = 1 := h
    have e : (hCp o t).2.1 = o.2.1 := by unfold hCp; simp [h']
    rw [e]; exact a6 h'
  · have h' : o.2.2.2.2 = 1 := h
    have e : (hCp o t).2.2.1 = o.2.2.1 := by unfold hCp; simp [h']
    rw [e]; exact a7 h'
def zHi (g : Nat → SV) (nx : Nat) (sz : Int32) (sv : Nat → Int32) (st : Int32) : Prop := ∃ z, z ≤ 5 ∧ nx < 5 ∧ sz = nI z ∧ st = nI z ∧ (∀ i, i < z → zSV (g ((nx + 5 - z + i) % 5)) (fun j => sv (986 * i + j))) ∧ (∀ i, ((g i).2.2.2.1 = 0 ∨ (g i).2.2.2.1 = 1) ∧ ((g i).2.2.2.2 = 0 ∨ (g i).2.2.2.2 = 1))
theorem zShift {Z : Nat} (hZ : 5000 < Z) (sv : Nat → Int32) : f_X7_save_L10 Z 0 sv = some (fun j => if j < 3944 then sv (j + 986) else sv j) := by
  have h1 := zloop0 (fun F (x : Nat → Int32) i => f_X7_save_L10 F i x) (fun i => fun j => if j < i then sv (j + 986) else sv j) 3944 (fun j => if j < 3944 then sv (j + 986) else sv j) (F := Z) (by omega) (fun F => by
    show f_X7_save_L10 (F + 1) _ _ = _
    rw [f_X7_save_L10, if_neg (by decide)]) (fun F i hi => by
    show f_X7_save_L10 (F + 1) _ _ = f_X7_save_L10 F _ _
    rw [f_X7_save_L10, if_pos (show nI i < 3944 from nI_lt (b := 3944) hi (by decide)), show (986 : Int32) = nI 986 from rfl, zadd, zag (by omega) (by omega), zob1, zas (by omega) (by omega), zob1, nI_1]
    congr 1
    funext j
    by_cases e : j = i
    · subst e
      rw [zus rfl, if_neg (by omega), if_pos (by omega)]
    · rw [zun e]
      have : (j < i + 1) = (j < i) := propext (by omega)
      simp only [this])
  have : (fun j => if j < 0 then sv (j + 986) else sv j) = sv := by funext j; simp
  rw [← h1]; show _ = f_X7_save_L10 Z 0 _; rw [this]
theorem zPut {Z z : Nat} (hZ : 5000 < Z) (hz : z < 5) (p w : Nat → Int32) : f_X7_save_L51 p (nI z) Z 0 w = some (fun j => if 986 * z ≤ j ∧ j < 986 * z + 986 then p (j - 986 * z) else w j) := by
  have h1 := zloop0 (fun F (x : Nat → Int32) i => f_X7_save_L51 p (nI z) F i x) (fun i => fun j => if 986 * z ≤ j ∧ j < 986 * z + i then p (j - 986 * z) else w j) 986 (fun j => if 986 * z ≤ j ∧ j < 986 * z + 986 then p (j - 986 * z) else w j) (F := Z) (by omega) (fun F => by
    show f_X7_save_L51 p (nI z) (F + 1) _ _ = _
    rw [f_X7_save_L51, if_neg (by decide)]) (fun F i hi => by
    show f_X7_save_L51 p (nI z) (F + 1) _ _ = f_X7_save_L51 p (nI z) F _ _
    rw [f_X7_save_L51, if_pos (show nI i < 986 from nI_lt (b := 986) hi (by decide)), show (986 : Int32) = nI 986 from rfl, zmul, zadd, zag (by omega) (by omega), zob1, zas (by omega) (by omega), zob1, nI_1]
    congr 1
    funext j
    by_cases e : j = 986 * z + i
    · subst e
      rw [zus rfl, if_pos (by omega)]; congr 1; omega
    · rw [zun e]
      have : (986 * z ≤ j ∧ j < 986 * z + (i + 1)) = (986 * z ≤ j ∧ j < 986 * z + i) := propext (by omega)
      simp only [this])
  have : (fun j => if 986 * z ≤ j ∧ j < 986 * z + 0 then p (j - 986 * z) else w j) = w := by
    funext j; rw [if_neg (by omega)]
  rw [← h1]; show _ = f_X7_save_L51 p (nI z) Z 0 _; rw [this]
theorem zSave {Z : Nat} (hZ : 5000 < Z) {c s0 s1 : CV} {k0 k1 : Int32} {p : Nat → Int32} {g : Nat → SV} {nx : Nat} {sz : Int32} {sv : Nat → Int32} {st : Int32} (a : zSt c s0 s1 k0 k1 p) (b : zHi g nx sz sv st) : ∃ sv' st', f_X7_save Z p sv st = some (sv', st') ∧ zHi (f_X1_record g nx sz c s0 s1 k0 k1).1 (f_X1_record g nx sz c s0 s1 k0 k1).2.1 (f_X1_record g nx sz c s0 s1 k0 k1).2.2 sv' st' := by
  obtain ⟨z, hz, hnx, rfl, rfl, h1, h2⟩ := b
  have hfl : ∀ i, ((va_up g nx (hCp (c, s0, s1, k0, k1) (g nx)) i).2.2.2.1 = 0 ∨ (va_up g nx (hCp (c, s0, s1, k0, k1) (g nx)) i).2.2.2.1 = 1) ∧ ((va_up g nx (hCp (c, s0, s1, k0, k1) (g nx)) i).2.2.2.2 = 0 ∨ (va_up g nx (hCp (c, s0, s1, k0, k1) (g nx)) i).2.2.2.2 = 1) := fun i => by
    unfold va_up
    by_cases e : i = nx
    · rw [if_pos e]; exact ⟨a.2.2.2.1, a.2.2.2.2.1⟩
    · rw [if_neg e]; exact h2 i
  have hnew : zSV (hCp (c, s0, s1, k0, k1) (g nx)) p := zSV.cp (o := (c, s0, s1, k0, k1)) a
  have e5 : (nI z = 5) = (z = 5) := zeq (b := 5) (by omega) (by omega)
  unfold f_X7_save f_X1_record
  by_cases c5 : z = 5
  · subst c5
    rw [if_pos (by decide), zShift hZ, zob1, zob2, show nI 5 - 1 = nI 4 from rfl, zPut hZ (by omega), zob1]
    refine ⟨_, _, rfl, 5, by omega, Nat.mod_lt _ (by omega), by rw [show nI 5 + 1 = nI 6 from rfl]; rfl, rfl, fun i hi => ?_, hfl⟩
    by_cases e : i = 4
    · subst e
      have : ((nx + 1) % 5 + 5 - 5 + 4) % 5 = nx := by omega
      show zSV (va_up g nx _ _) _
      rw [this]
      unfold va_up
      rw [if_pos rfl]
      refine zSt.fr hnew (fun j hj => ?_)
      show (if 986 * 4 ≤ 986 * 4 + j ∧ 986 * 4 + j < 986 * 4 + 986 then p (986 * 4 + j - 986 * 4) else _) = p j
      rw [if_pos (by omega)]; exact congrArg p (by omega)
    · have hne : ((nx + 1) % 5 + 5 - 5 + i) % 5 ≠ nx := by omega
      have he : ((nx + 1) % 5 + 5 - 5 + i) % 5 = (nx + 5 - 5 + (i + 1)) % 5 := by omega
      show zSV (va_up g nx _ _) _
      unfold va_up
      rw [if_neg hne, he]
      refine zSt.fr (h1 (i + 1) (by omega)) (fun j hj => ?_)
      show (if 986 * 4 ≤ 986 * i + j ∧ 986 * i + j < 986 * 4 + 986 then _ else if 986 * i + j < 3944 then sv (986 * i + j + 986) else sv (986 * i + j)) = sv (986 * (i + 1) + j)
      rw [if_neg (by omega), if_pos (by omega)]; congr 1; omega
  · rw [if_neg (by rw [e5]; exact c5), zob2, zPut hZ (by omega), zob1]
    refine ⟨_, _, rfl, z + 1, by omega, Nat.mod_lt _ (by omega), ?_, nI_1 z, fun i hi => ?_, hfl⟩
    · show imin 5 (nI z + 1) = nI (z + 1)
      rw [nI_1, show (5 : Int32) = nI 5 from rfl, zmin (by omega) (by omega)]; congr 1; omega
    · by_cases e : i = z
      · subst e
        have : ((nx + 1) % 5 + 5 - (i + 1) + i) % 5 = nx := by omega
        show zSV (va_up g nx _ _) _
        rw [this]
        unfold va_up
        rw [if_pos rfl]
        refine zSt.fr hnew (fun j hj => ?_)
        show (if 986 * i ≤ 986 * i + j ∧ 986 * i + j < 986 * i + 986 then p (986 * i + j - 986 * i) else _) = p j
        rw [if_pos (by omega)]; congr 1; omega
      · have hne : ((nx + 1) % 5 + 5 - (z + 1) + i) % 5 ≠ nx := by omega
        have he : ((nx + 1) % 5 + 5 - (z + 1) + i) % 5 = (nx + 5 - z + i) % 5 := by omega
        show zSV (va_up g nx _ _) _
        unfold va_up
        rw [if_neg hne, he]
        refine zSt.fr (h1 i (by omega)) (fun j hj => ?_)
        show (if 986 * z ≤ 986 * i + j ∧ 986 * i + j < 986 * z + 986 then _ else sv (986 * i + j)) = sv (986 * i + j)
        rw [if_neg (by omega)]
theorem zOp.go {Z : Nat} (hZ : 5000 < Z) {c s0 s1 : CV} {k0 k1 : Int32} {q : Nat → Int32} {g : Nat → SV} {nx : Nat} {sz : Int32} {sv : Nat → Int32} {st : Int32} {fc : CV → CV → Int32 → Int32 → (Nat → SV) → Nat → Int32 → Option (Int32 × CV × (Nat → SV) × Nat × Int32)} {fm : (Nat → Int32) → Int32 → Option (Int32 × (Nat → Int32) × (Nat → Int32) × Int32)} (o : zOp Z c q fc fm) (a : zSt c s0 s1 k0 k1 q) (b : zHi g nx sz sv st) : ∃ r c' g' nx' sz' q' sv' st', fc s0 s1 k0 k1 g nx sz = some (r, c', g', nx', sz') ∧ fm sv st = some (r, q', sv', st') ∧ zSt c' s0 s1 k0 k1 q' ∧ zHi g' nx' sz' sv' st' := by
  rcases o with ⟨e, h1, h2⟩ | ⟨r, c', q', h1, h2, h3, h4⟩
  · exact ⟨e, c, g, nx, sz, q, sv, st, h1 _ _ _ _ _ _ _, h2 _ _, a, b⟩
  · obtain ⟨sv', st', l1, l2⟩ := zSave hZ a b
    exact ⟨r, c', _, _, _, q', sv', st', h3 _ _ _ _ _ _ _, h4 _ _ _ _ l1, a.core h1 h2, l2⟩
theorem zUndoL {Z z : Nat} (hZ : 5000 < Z) (hz : z < 5) (sv p : Nat → Int32) : f_X7_undo_L22 sv (nI (z + 1)) Z 0 p = some (fun j => if j < 986 then sv (986 * z + j) else p j) := by
  have h1 := zloop0 (fun F (x : Nat → Int32) i => f_X7_undo_L22 sv (nI (z + 1)) F i x) (fun i => fun j => if j < i then sv (986 * z + j) else p j) 986 (fun j => if j < 986 then sv (986 * z + j) else p j) (F := Z) (by omega) (fun F => by
    show f_X7_undo_L22 sv (nI (z + 1)) (F + 1) _ _ = _
    rw [f_X7_undo_L22, if_neg (by decide)]) (fun F i hi => by
    show f_X7_undo_L22 sv (nI (z + 1)) (F + 1) _ _ = f_X7_undo_L22 sv (nI (z + 1)) F _ _
    rw [f_X7_undo_L22, if_pos (show nI i < 986 from nI_lt (b := 986) hi (by decide)), nI_pred, show (986 : Int32) = nI 986 from rfl, zmul, zadd, zag (by omega) (by omega), zob1, zas (by omega) (by omega), zob1, nI_1]
    congr 1
    funext j
    by_cases e : j = i
    · subst e
      rw [zus rfl, if_pos (by omega)]
    · rw [zun e]
      have : (j < i + 1) = (j < i) := propext (by omega)
      simp only [this])
  have : (fun j => if j < 0 then sv (986 * z + j) else p j) = p := by funext j; simp
  rw [← h1]; show _ = f_X7_undo_L22 sv (nI (z + 1)) Z 0 _; rw [this]
theorem zz_undo {Z : Nat} (hZ : 5000 < Z) {c s0 s1 : CV} {k0 k1 : Int32} {q : Nat → Int32} {g : Nat → SV} {nx : Nat} {sz : Int32} {sv : Nat → Int32} {st : Int32} (a : zSt c s0 s1 k0 k1 q) (b : zHi g nx sz sv st) : ∃ r c' s0' s1' k0' k1' nx' sz' q' st', f_X6_undo c s0 s1 k0 k1 g nx sz = (r, c', s0', s1', k0', k1', nx', sz') ∧ f_X7_undo Z q sv st = some (r, q', st') ∧ zSt c' s0' s1' k0' k1' q' ∧ zHi g nx' sz' sv st' := by
  obtain ⟨z, hz, hnx, rfl, rfl, h1, h2⟩ := id b
  unfold f_X6_undo f_X7_undo
  have e0 : (nI z = 0) = (z = 0) := zeq (b := 0) (by omega) (by omega)
  simp only [e0]
  by_cases c0 : z = 0
  · rw [if_pos c0, if_pos c0]
    exact ⟨_, _, _, _, _, _, _, _, _, _, rfl, rfl, a, b⟩
  · obtain ⟨y, rfl⟩ : ∃ y, z = y + 1 := ⟨z - 1, by omega⟩
    rw [if_neg c0, if_neg c0, zUndoL hZ (by omega), zob1, nI_pred]
    have hl := h1 y (by omega)
    rw [show (nx + 5 - (y + 1) + y) % 5 = (nx + 4) % 5 by omega] at hl
    have hc := zSV.cp (t := (c, s0, s1, k0, k1)) hl
    have hc' : zSV (hCp (g ((nx + 4) % 5)) (c, s0, s1, k0, k1)) (fun j => if j < 986 then sv (986 * y + j) else q j) := zSt.fr hc (fun j hj => by rw [if_pos hj])
    unfold f_X1_moveLatestTo
    rw [nI_pred]
    exact ⟨_, _, _, _, _, _, _, _, _, _, rfl, rfl, hc', y, by omega, Nat.mod_lt _ (by omega), rfl, rfl, fun i hi => by
      rw [show ((nx + 4) % 5 + 5 - y + i) % 5 = (nx + 5 - (y + 1) + i) % 5 by omega]; exact h1 i (by omega), h2⟩
theorem zTakeL {Z s : Nat} (hZ : 5000 < Z) (hs : s ≤ 1) (p : Nat → Int32) : f_X7_take_L34 (nI s) Z 0 p = some (fun j => if 329 + 329 * s ≤ j ∧ j < 329 + 329 * s + 328 then p (j - (329 + 329 * s)) else p j) := by
  have h1 := zloop0 (fun F (x : Nat → Int32) i => f_X7_take_L34 (nI s) F i x) (fun i => fun j => if 329 + 329 * s ≤ j ∧ j < 329 + 329 * s + i then p (j - (329 + 329 * s)) else p j) 328 (fun j => if 329 + 329 * s ≤ j ∧ j < 329 + 329 * s + 328 then p (j - (329 + 329 * s)) else p j) (F := Z) (by omega) (fun F => by
    show f_X7_take_L34 (nI s) (F + 1) _ _ = _
    rw [f_X7_take_L34, if_neg (by decide)]) (fun F i hi => by
    show f_X7_take_L34 (nI s) (F + 1) _ _ = f_X7_take_L34 (nI s) F _ _
    rw [f_X7_take_L34, if_pos (show nI i < 328 from nI_lt (b := 328) hi (by decide)), show (328 : Int32) = nI 328 from rfl, show (329 : Int32) = nI 329 from rfl, zmul, zadd, nI_1, zadd, zag (by omega) (by omega), zob1, zas (by omega) (by omega), zob1, nI_1]
    congr 1
    funext j
    by_cases e : j = 328 + 329 * s + 1 + i
    · subst e
      rw [zus rfl, if_neg (by omega), if_pos (by omega)]; congr 1; omega
    · rw [zun e]
      have : (329 + 329 * s ≤ j ∧ j < 329 + 329 * s + (i + 1)) = (329 + 329 * s ≤ j ∧ j < 329 + 329 * s + i) := propext (by omega)
      simp only [this])
  have : (fun j => if 329 + 329 * s ≤ j ∧ j < 329 + 329 * s + 0 then p (j - (329 + 329 * s)) else p j) = p := by
    funext j; rw [if_neg (by omega)]
  rw [← h1]; show _ = f_X7_take_L34 (nI s) Z 0 _; rw [this]
theorem zRestL {Z s : Nat} (hZ : 5000 < Z) (hs : s ≤ 1) (p : Nat → Int32) : f_X7_restore_L39 (nI s) Z 0 p = some (fun j => if j < 328 then p (329 + 329 * s + j) else p j) := by
  have h1 := zloop0 (fun F (x : Nat → Int32) i => f_X7_restore_L39 (nI s) F i x) (fun i => fun j => if j < i then p (329 + 329 * s + j) else p j) 328 (fun j => if j < 328 then p (329 + 329 * s + j) else p j) (F := Z) (by omega) (fun F => by
    show f_X7_restore_L39 (nI s) (F + 1) _ _ = _
    rw [f_X7_restore_L39, if_neg (by decide)]) (fun F i hi => by
    show f_X7_restore_L39 (nI s) (F + 1) _ _ = f_X7_restore_L39 (nI s) F _ _
    rw [f_X7_restore_L39, if_pos (show nI i < 328 from nI_lt (b := 328) hi (by decide)), show (328 : Int32) = nI 328 from rfl, show (329 : Int32) = nI 329 from rfl, zmul, zadd, nI_1, zadd, zag (by omega) (by omega), zob1, zas (by omega) (by omega), zob1, nI_1]
    congr 1
    funext j
    by_cases e : j = i
    · subst e
      rw [zus rfl, if_neg (by omega), if_pos (by omega)]; congr 1; omega
    · rw [zun e]
      have : (j < i + 1) = (j < i) := propext (by omega)
      simp only [this])
  have : (fun j => if j < 0 then p (329 + 329 * s + j) else p j) = p := by funext j; simp
  rw [← h1]; show _ = f_X7_restore_L39 (nI s) Z 0 _; rw [this]
theorem zRT_hours {c : CV} {q : Nat → Int32} (a : zRT c q) : q 322 = c.2.2.2.2.2.2.2.2.2.2.1 := by
  obtain ⟨n, S, W, H, T, C, P, O, h, r, hh, a⟩ := a
  rw [a.2.2.2.2.2.1, a.2.2.2.2.2.2.1]
theorem zz_take {Z : Nat} (hZ : 5000 < Z) {c s0 s1 : CV} {k0 k1 : Int32} {q : Nat → Int32} {g : Nat → SV} {nx : Nat} {sz : Int32} {sv : Nat → Int32} {st : Int32} (a : zSt c s0 s1 k0 k1 q) (b : zHi g nx sz sv st) (p1 : Int32) : ∃ r s0' s1' k0' k1' g' nx' sz' q' sv' st', f_X6_take c s0 s1 k0 k1 g nx sz p1 = (r, s0', s1', k0', k1', g', nx', sz') ∧ f_X7_take Z q sv st p1 = some (r, q', sv', st') ∧ zSt c s0' s1' k0' k1' q' ∧ zHi g' nx' sz' sv' st' := by
  obtain ⟨sv', st', l1, l2⟩ := zSave hZ a b
  obtain ⟨a1, a2, a3, a4, a5, a6, a7⟩ := id a
  unfold f_X6_take f_X7_take f_X6_take_v0 f_X6_take_v1 f_X3_keep_v0 f_X3_keep_v1
  have hhr := zRT_hours a1
  rcases zr1 p1 with ⟨s, hs, rfl, e1, e2⟩ | ⟨e1, e2⟩
  · have h01 : s = 0 ∨ s = 1 := by omega
    have hix : (328 : Int32) + 329 * nI s = nI (328 + 329 * s) := by
      rw [show (328 : Int32) = nI 328 from rfl, show (329 : Int32) = nI 329 from rfl, zmul, zadd]
    simp only [e1, e2, if_true, if_false, z10, l1, zob2]
    rw [hix, zas (by omega) (by omega), zob1, zTakeL hZ hs, zob1]
    have e322 : aget 986 (fun j => if 329 + 329 * s ≤ j ∧ j < 329 + 329 * s + 328 then upd q (328 + 329 * s) 1 (j - (329 + 329 * s)) else upd q (328 + 329 * s) 1 j) 322 = some c.2.2.2.2.2.2.2.2.2.2.1 := by
      show some (if 329 + 329 * s ≤ 322 ∧ 322 < 329 + 329 * s + 328 then _ else upd q (328 + 329 * s) 1 322) = _
      rw [if_neg (by omega), zun (by omega), hhr]
    rw [e322, zob1]
    rcases h01 with rfl | rfl
    · rw [if_pos (by decide)]
      refine ⟨_, _, _, _, _, _, _, _, _, _, _, rfl, rfl, ⟨a1.fr (fun j hj => ?_), ?_, ?_, Or.inr rfl, a5, fun _ => a1.fr (fun j hj => ?_), fun h => (a7 h).fr (fun j hj => ?_)⟩, l2⟩
      · show (if 329 + 329 * 0 ≤ j ∧ j < 329 + 329 * 0 + 328 then _ else upd q (328 + 329 * 0) 1 j) = _
        rw [if_neg (by omega), zun (by omega)]
      · show (if 329 + 329 * 0 ≤ 328 ∧ 328 < 329 + 329 * 0 + 328 then _ else upd q (328 + 329 * 0) 1 328) = _
        rw [if_neg (by omega), zus (by omega)]; rfl
      · show (if 329 + 329 * 0 ≤ 657 ∧ 657 < 329 + 329 * 0 + 328 then _ else upd q (328 + 329 * 0) 1 657) = _
        rw [if_neg (by omega), zun (by omega)]; exact a3
      · show (if 329 + 329 * 0 ≤ 329 + j ∧ 329 + j < 329 + 329 * 0 + 328 then upd q (328 + 329 * 0) 1 (329 + j - (329 + 329 * 0)) else _) = _
        rw [if_pos (by omega), zun (by omega)]; exact congrArg q (by omega)
      · show (if 329 + 329 * 0 ≤ 658 + j ∧ 658 + j < 329 + 329 * 0 + 328 then _ else upd q (328 + 329 * 0) 1 (658 + j)) = _
        rw [if_neg (by omega), zun (by omega)]
    · rw [if_neg (by decide)]
      refine ⟨_, _, _, _, _, _, _, _, _, _, _, rfl, rfl, ⟨a1.fr (fun j hj => ?_), ?_, ?_, a4, Or.inr rfl, fun h => (a6 h).fr (fun j hj => ?_), fun _ => a1.fr (fun j hj => ?_)⟩, l2⟩
      · show (if 329 + 329 * 1 ≤ j ∧ j < 329 + 329 * 1 + 328 then _ else upd q (328 + 329 * 1) 1 j) = _
        rw [if_neg (by omega), zun (by omega)]
      · show (if 329 + 329 * 1 ≤ 328 ∧ 328 < 329 + 329 * 1 + 328 then _ else upd q (328 + 329 * 1) 1 328) = _
        rw [if_neg (by omega), zun (by omega)]; exact a2
      · show (if 329 + 329 * 1 ≤ 657 ∧ 657 < 329 + 329 * 1 + 328 then _ else upd q (328 + 329 * 1) 1 657) = _
        rw [if_neg (by omega), zus (by omega)]; rfl
      · show (if 329 + 329 * 1 ≤ 329 + j ∧ 329 + j < 329 + 329 * 1 + 328 then _ else upd q (328 + 329 * 1) 1 (329 + j)) = _
        rw [if_neg (by omega), zun (by omega)]
      · show (if 329 + 329 * 1 ≤ 658 + j ∧ 658 + j < 329 + 329 * 1 + 328 then upd q (328 + 329 * 1) 1 (658 + j - (329 + 329 * 1)) else _) = _
        rw [if_pos (by omega), zun (by omega)]; exact congrArg q (by omega)
  · simp only [e1, e2, if_true, if_false, z10]
    have : ∀ (p : Prop) [Decidable p], (if p then pl6 ((-1 : Int32), s0, k0, g, nx, sz) (fun r_ s0_ k0_ g_ nx_ sz_ => (r_, s0_, s1, k0_, k1, g_, nx_, sz_)) else pl6 ((-1 : Int32), s1, k1, g, nx, sz) (fun r_ s1_ k1_ g_ nx_ sz_ => (r_, s0, s1_, k0, k1_, g_, nx_, sz_))) = (-1, s0, s1, k0, k1, g, nx, sz) := fun p _ => by split <;> rfl
    rw [this]
    exact ⟨_, _, _, _, _, _, _, _, _, _, _, rfl, rfl, a, b⟩
theorem zz_restore {Z : Nat} (hZ : 5000 < Z) {c s0 s1 : CV} {k0 k1 : Int32} {q : Nat → Int32} {g : Nat → SV} {nx : Nat} {sz : Int32} {sv : Nat → Int32} {st : Int32} (a : zSt c s0 s1 k0 k1 q) (b : zHi g nx sz sv st) (p1 : Int32) : ∃ r c' g' nx' sz' q' sv' st', f_X6_restore c s0 s1 k0 k1 g nx sz p1 = (r, c', g', nx', sz') ∧ f_X7_restore Z q sv st p1 = some (r, q', sv', st') ∧ zSt c' s0 s1 k0 k1 q' ∧ zHi g' nx' sz' sv' st' := by
  obtain ⟨sv', st', l1, l2⟩ := zSave hZ a b
  obtain ⟨a1, a2, a3, a4, a5, a6, a7⟩ := id a
  unfold f_X6_restore f_X7_restore f_X6_restore_v0 f_X6_restore_v1 f_X3_isKept f_X3_bringUp_v0 f_X3_bringUp_v1
  rcases zr1 p1 with ⟨s, hs, rfl, e1, e2⟩ | ⟨e1, e2⟩
  · have h01 : s = 0 ∨ s = 1 := by omega
    have hix : (328 : Int32) + 329 * nI s = nI (328 + 329 * s) := by
      rw [show (328 : Int32) = nI 328 from rfl, show (329 : Int32) = nI 329 from rfl, zmul, zadd]
    simp only [e1, e2, if_true, if_false, z10, l1, zob2]
    rw [hix, zag (by omega) (by omega), zob1, zRestL hZ hs, zob1]
    have e322 : aget 986 (fun j => if j < 328 then q (329 + 329 * s + j) else q j) 322 = some (q (329 + 329 * s + 322)) := by
      show some (if 322 < 328 then q (329 + 329 * s + 322) else _) = _
      rw [if_pos (by omega)]
    rw [e322, zob1]
    rcases h01 with rfl | rfl
    · rw [if_pos (show nI 0 = 0 from rfl), if_pos (show nI 0 = 0 from rfl)]
      rw [show 328 + 329 * 0 = 328 by omega, a2]
      by_cases ck : k0 = 0
      · rw [if_pos ck, if_pos ck]; exact ⟨_, _, _, _, _, _, _, _, rfl, rfl, a, b⟩
      · rw [if_neg ck, if_neg ck]
        have hk := a6 (by rcases a4 with x | x; exact absurd x ck; exact x)
        have h3 := zRT_hours hk
        have h3' : q (329 + 329 * 0 + 322) = s0.2.2.2.2.2.2.2.2.2.2.1 := h3
        rw [h3']
        refine ⟨_, _, _, _, _, _, _, _, rfl, rfl, a.core (hk.fr (fun j hj => ?_)) (fun j hj => ?_), l2⟩
        · show (if j < 328 then q (329 + 329 * 0 + j) else q j) = q (329 + j)
          rw [if_pos hj]
        · show (if j < 328 then q (329 + 329 * 0 + j) else q j) = q j
          rw [if_neg (by omega)]
    · rw [if_neg (show ¬ nI 1 = 0 by decide), if_neg (show ¬ nI 1 = 0 by decide)]
      rw [show 328 + 329 * 1 = 657 by omega, a3]
      by_cases ck : k1 = 0
      · rw [if_pos ck, if_pos ck]; exact ⟨_, _, _, _, _, _, _, _, rfl, rfl, a, b⟩
      · rw [if_neg ck, if_neg ck]
        have hk := a7 (by rcases a5 with x | x; exact absurd x ck; exact x)
        have h3 := zRT_hours hk
        have h3' : q (329 + 329 * 1 + 322) = s1.2.2.2.2.2.2.2.2.2.2.1 := h3
        rw [h3']
        refine ⟨_, _, _, _, _, _, _, _, rfl, rfl, a.core (hk.fr (fun j hj => ?_)) (fun j hj => ?_), l2⟩
        · show (if j < 328 then q (329 + 329 * 1 + j) else q j) = q (658 + j)
          rw [if_pos hj]
        · show (if j < 328 then q (329 + 329 * 1 + j) else q j) = q j
          rw [if_neg (by omega)]
  · simp only [e1, e2, if_true, if_false, z10]
    have : ∀ (p : Prop) [Decidable p], (if p then pl5 ((-1 : Int32), c, g, nx, sz) (fun r_ c_ g_ nx_ sz_ => (r_, c_, g_, nx_, sz_)) else pl5 ((-1 : Int32), c, g, nx, sz) (fun r_ c_ g_ nx_ sz_ => (r_, c_, g_, nx_, sz_))) = (-1, c, g, nx, sz) := fun p _ => by split <;> rfl
    rw [this]
    exact ⟨_, _, _, _, _, _, _, _, rfl, rfl, a, b⟩
