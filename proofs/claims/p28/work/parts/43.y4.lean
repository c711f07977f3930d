/-! the object: the city, two snapshots, the ring -/
def yR (b : Nat) (c : CV) : Prop := ∃ n S W H T C P O R Y h r hs sn, h ≤ b ∧ yC n S W H T C P O R Y h r hs sn c
def ySV (b : Nat) (s : SV) : Prop := (s.2.2.2.1 = 0 ∨ s.2.2.2.1 = 1) ∧ (s.2.2.2.2 = 0 ∨ s.2.2.2.2 = 1) ∧ yR b s.1 ∧ (s.2.2.2.1 = 1 → yR b s.2.1) ∧ (s.2.2.2.2 = 1 → yR b s.2.2.1)
def yV (b : Nat) (v : OV) : Prop := ySV b (v.1, v.2.1, v.2.2.1, v.2.2.2.1, v.2.2.2.2.1) ∧ v.2.2.2.2.2.2.1 < 5 ∧ (∃ m, m ≤ 5 ∧ v.2.2.2.2.2.2.2.1 = nI m) ∧ ∀ i, ySV b (v.2.2.2.2.2.1 i)
theorem yR.mono {b b' : Nat} {c : CV} (hb : b ≤ b') (a : yR b c) : yR b' c := by
  obtain ⟨n, S, W, H, T, C, P, O, R, Y, h, r, hs, sn, hh, a⟩ := a
  exact ⟨n, S, W, H, T, C, P, O, R, Y, h, r, hs, sn, by omega, a⟩
theorem ySV.mono {b b' : Nat} {s : SV} (hb : b ≤ b') (a : ySV b s) : ySV b' s := ⟨a.1, a.2.1, a.2.2.1.mono hb, fun e => (a.2.2.2.1 e).mono hb, fun e => (a.2.2.2.2 e).mono hb⟩
theorem yV.mono {b b' : Nat} {v : OV} (hb : b ≤ b') (a : yV b v) : yV b' v := ⟨a.1.mono hb, a.2.1, a.2.2.1, fun i => (a.2.2.2 i).mono hb⟩
theorem yV.ok {b : Nat} {v : OV} (a : yV b v) : OK v := ⟨a.1.1, a.1.2.1, a.2.1, fun i => ⟨(a.2.2.2 i).1, (a.2.2.2 i).2.1⟩⟩
theorem yV.c {b : Nat} {v : OV} (a : yV b v) : yR b v.1 := a.1.2.2.1
theorem ySV.cp {b : Nat} {o t : SV} (a : ySV b o) : ySV b (hCp o t) := by
  obtain ⟨a1, a2, a3, a4, a5⟩ := a
  refine ⟨a1, a2, a3, fun e => ?_, fun e => ?_⟩
  · have e' : o.2.2.2.1 = 1 := e
    have : (hCp o t).2.1 = o.2.1 := by unfold hCp; simp [e']
    rw [this]; exact a4 e'
  · have e' : o.2.2.2.2 = 1 := e
    have : (hCp o t).2.2.1 = o.2.2.1 := by unfold hCp; simp [e']
    rw [this]; exact a5 e'
/-- an action, recorded -/
def yW (v : OV) (c : CV) : OV := (c, v.2.1, v.2.2.1, v.2.2.2.1, v.2.2.2.2.1, (f_X1_record v.2.2.2.2.2.1 v.2.2.2.2.2.2.1 v.2.2.2.2.2.2.2.1 v.1 v.2.1 v.2.2.1 v.2.2.2.1 v.2.2.2.2.1).1, (f_X1_record v.2.2.2.2.2.1 v.2.2.2.2.2.2.1 v.2.2.2.2.2.2.2.1 v.1 v.2.1 v.2.2.1 v.2.2.2.1 v.2.2.2.2.1).2.1, (f_X1_record v.2.2.2.2.2.1 v.2.2.2.2.2.2.1 v.2.2.2.2.2.2.2.1 v.1 v.2.1 v.2.2.1 v.2.2.2.1 v.2.2.2.2.1).2.2, v.2.2.2.2.2.2.2.2)
theorem yRing {b : Nat} {v : OV} (a : yV b v) : (v.2.2.2.2.2.2.1 + 1) % 5 < 5 ∧ (∃ m, m ≤ 5 ∧ imin 5 (v.2.2.2.2.2.2.2.1 + 1) = nI m ∧ 0 < m) ∧ ∀ i, ySV b (va_up v.2.2.2.2.2.1 v.2.2.2.2.2.2.1 (hCp (v.1, v.2.1, v.2.2.1, v.2.2.2.1, v.2.2.2.2.1) (v.2.2.2.2.2.1 v.2.2.2.2.2.2.1)) i) := by
  obtain ⟨a1, a2, ⟨m, hm, e⟩, a4⟩ := a
  refine ⟨Nat.mod_lt _ (by decide), ⟨min 5 (m + 1), by omega, ?_, by omega⟩, fun i => ?_⟩
  · rw [e, nI_1, show (5 : Int32) = nI 5 from rfl, zmin (by omega) (by omega)]
  · unfold va_up
    by_cases q : i = v.2.2.2.2.2.2.1
    · rw [if_pos q]; exact a1.cp
    · rw [if_neg q]; exact a4 i
theorem yV.w {b b' : Nat} {v : OV} {c : CV} (hb : b ≤ b') (a : yV b v) (hc : yR b' c) : yV b' (yW v c) := by
  obtain ⟨r1, ⟨m, r2, r3, -⟩, r4⟩ := yRing a
  exact ⟨⟨a.1.1, a.1.2.1, hc, fun e => (a.1.2.2.2.1 e).mono hb, fun e => (a.1.2.2.2.2 e).mono hb⟩, r1, ⟨m, r2, r3⟩, fun i => (r4 i).mono hb⟩
theorem yUndoW {b : Nat} {v : OV} {c : CV} (a : yV b v) (hc : yR b c) : ∃ z v2, m_undo (yW v c) = some (nI z, v2) ∧ z ≤ 5 ∧ v2.1 = v.1 ∧ yV b v2 ∧ nI z = imin 5 (v.2.2.2.2.2.2.2.1 + 1) - 1 := by
  have w := a.w (Nat.le_refl b) hc
  obtain ⟨r1, ⟨m, r2, r3, r5⟩, r4⟩ := yRing a
  have hnx := a.2.1
  have e0 : ¬ imin 5 (v.2.2.2.2.2.2.2.1 + 1) = 0 := by
    rw [r3, show (0 : Int32) = nI 0 from rfl, nI_eq (by omega) (by omega)]; omega
  have em : (((v.2.2.2.2.2.2.1 + 1) % 5) + 4) % 5 = v.2.2.2.2.2.2.1 := by omega
  have e1 : imin 5 (v.2.2.2.2.2.2.2.1 + 1) - 1 = nI (m - 1) := by
    rw [r3, show (1 : Int32) = nI 1 from rfl, zsub (by omega)]
  unfold m_undo
  rw [gO_in w.ok]
  unfold f_X6_undo yW f_X1_record f_X1_moveLatestTo
  simp only [if_neg e0, em]
  refine ⟨m - 1, _, by rw [← e1]; rfl, by omega, ?_, ?_, e1.symm⟩
  · show (va_up v.2.2.2.2.2.1 v.2.2.2.2.2.2.1 (hCp (v.1, v.2.1, v.2.2.1, v.2.2.2.1, v.2.2.2.2.1) (v.2.2.2.2.2.1 v.2.2.2.2.2.2.1)) v.2.2.2.2.2.2.1).1 = v.1
    unfold va_up
    rw [if_pos rfl]; rfl
  · refine ⟨(r4 v.2.2.2.2.2.2.1).cp, hnx, ⟨m - 1, by omega, e1⟩, r4⟩
/-- a snapshot is taken -/
def yT (s : Nat) (v : OV) : OV := (v.1, (if s = 0 then v.1 else v.2.1), (if s = 0 then v.2.2.1 else v.1), (if s = 0 then 1 else v.2.2.2.1), (if s = 0 then v.2.2.2.2.1 else 1), (yW v v.1).2.2.2.2.2)
theorem yTake {b : Nat} {v : OV} (a : yV b v) {s : Nat} (hs : s ≤ 1) : m_take v (nI s) = some (v.1.2.2.2.2.2.2.2.2.2.2.1, yT s v) ∧ yV b (yT s v) := by
  obtain ⟨r1, ⟨m, r2, r3, r5⟩, r4⟩ := yRing a
  have h01 : s = 0 ∨ s = 1 := by omega
  constructor
  · unfold m_take
    rw [gO_in a.ok]
    unfold f_X6_take f_X6_take_v0 f_X6_take_v1 f_X3_keep_v0 f_X3_keep_v1
    have eo : f_X6_outside (nI s) 0 1 = 0 := youtI (m := 1) rfl (by decide) hs
    simp only [eo, if_true]
    rcases h01 with rfl | rfl
    · rw [if_pos (by decide)]; rfl
    · rw [if_neg (by decide)]; rfl
  · obtain ⟨a1, a2, a3, a4⟩ := a
    rcases h01 with rfl | rfl
    · exact ⟨⟨Or.inr rfl, a1.2.1, a1.2.2.1, fun _ => a1.2.2.1, a1.2.2.2.2⟩, r1, ⟨m, r2, r3⟩, r4⟩
    · exact ⟨⟨a1.1, Or.inr rfl, a1.2.2.1, a1.2.2.2.1, fun _ => a1.2.2.1⟩, r1, ⟨m, r2, r3⟩, r4⟩
theorem yRestA {c s0 s1 : CV} {k1 : Int32} {g : Nat → SV} {nx : Nat} {sz : Int32} : f_X6_restore c s0 s1 1 k1 g nx sz (nI 0) = (s0.2.2.2.2.2.2.2.2.2.2.1, s0, f_X1_record g nx sz c s0 s1 1 k1) := by
  unfold f_X6_restore f_X6_restore_v0 f_X3_isKept f_X3_bringUp_v0
  have eo : f_X6_outside (nI 0) 0 1 = 0 := by decide
  have e0 : (nI 0 = (0 : Int32)) = True := by simp [nI_0]
  simp only [eo, e0, if_true, z10, if_false]
  rfl
theorem yRestB {c s0 s1 : CV} {k0 : Int32} {g : Nat → SV} {nx : Nat} {sz : Int32} : f_X6_restore c s0 s1 k0 1 g nx sz (nI 1) = (s1.2.2.2.2.2.2.2.2.2.2.1, s1, f_X1_record g nx sz c s0 s1 k0 1) := by
  unfold f_X6_restore f_X6_restore_v1 f_X3_isKept f_X3_bringUp_v1
  have eo : f_X6_outside (nI 1) 0 1 = 0 := by decide
  have e0 : (nI 1 = (0 : Int32)) = False := by decide
  simp only [eo, e0, if_true, z10, if_false]
  rfl
theorem yRestC {v : OV} (ok : OK v) {c : CV} (s : Nat) (hs : s = 0 ∧ v.2.2.2.1 = 1 ∧ v.2.1 = c ∨ s = 1 ∧ v.2.2.2.2.1 = 1 ∧ v.2.2.1 = c) : m_restore v (nI s) = some (c.2.2.2.2.2.2.2.2.2.2.1, yW v c) := by
  unfold m_restore
  rw [gO_in ok]
  obtain ⟨w1, w2, w3, w4, w5, w6, w7, w8, w9⟩ := v
  rcases hs with ⟨rfl, h1, h2⟩ | ⟨rfl, h1, h2⟩
  · have h1 : w4 = 1 := h1
    have h2 : w2 = c := h2
    subst h1 h2
    show pl5 (f_X6_restore w1 w2 w3 1 w5 w6 w7 w8 (nI 0)) _ = _
    rw [yRestA]; rfl
  · have h1 : w5 = 1 := h1
    have h2 : w3 = c := h2
    subst h1 h2
    show pl5 (f_X6_restore w1 w2 w3 w4 1 w6 w7 w8 (nI 1)) _ = _
    rw [yRestB]; rfl
theorem yRestT {b b' : Nat} {v : OV} {c : CV} (hb : b ≤ b') (a : yV b v) (hc : yR b' c) {s : Nat} (hs : s ≤ 1) : m_restore (yW (yT s v) c) (nI s) = some (v.1.2.2.2.2.2.2.2.2.2.2.1, yW (yW (yT s v) c) v.1) := by
  have w := (yTake a hs).2.w hb hc
  have h01 : s = 0 ∨ s = 1 := by omega
  refine yRestC w.ok s ?_
  rcases h01 with rfl | rfl
  · exact Or.inl ⟨rfl, rfl, rfl⟩
  · exact Or.inr ⟨rfl, rfl, rfl⟩
theorem yRest2 {v : OV} (a : OK v) : m_restore v 2 = some (-1, v) := by
  unfold m_restore
  rw [gO_in a]
  unfold f_X6_restore f_X6_restore_v0 f_X6_restore_v1
  have eo : f_X6_outside 2 0 1 = 1 := by decide
  simp only [eo, z10, if_false]
  rw [if_neg (by decide)]
  rfl
theorem yRest0 {v : OV} (a : OK v) (h : v.2.2.2.1 = 0) : m_restore v 0 = some (-2, v) := by
  unfold m_restore
  rw [gO_in a]
  unfold f_X6_restore f_X6_restore_v0 f_X3_isKept
  have eo : f_X6_outside 0 0 1 = 0 := by decide
  simp only [eo, h, if_true]
  obtain ⟨v1, v2, v3, v4, v5⟩ := v
  have h : v4 = 0 := h
  subst h
  rfl
theorem yUndo0 {v : OV} (a : OK v) (h : v.2.2.2.2.2.2.2.1 = 0) : m_undo v = some (-2, v) := by
  unfold m_undo
  rw [gO_in a]
  unfold f_X6_undo
  rw [if_pos h]
  rfl
