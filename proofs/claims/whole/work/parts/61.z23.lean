def zRel (v : LST) : Prop := zSt v.1 v.2.1 v.2.2.1 v.2.2.2.1 v.2.2.2.2.1 v.2.2.2.2.2.2.2.2.2.2.2.2.2.2.1 ∧ zHi v.2.2.2.2.2.1 v.2.2.2.2.2.2.1 v.2.2.2.2.2.2.2.1 v.2.2.2.2.2.2.2.2.2.2.2.2.2.2.2.1 v.2.2.2.2.2.2.2.2.2.2.2.2.2.2.2.2.2.2.1 ∧ ∃ m, m ≤ 80 ∧ v.2.2.2.2.2.2.2.2.2.1 = nI m ∧ v.2.2.2.2.2.2.2.2.2.2.2.2.2.2.2.2.2.2.2.1 = nI m ∧ zTx m v.2.2.2.2.2.2.2.2.1 v.2.2.2.2.2.2.2.2.2.2.2.2.2.2.2.2.2.1
theorem zs_0 (Z : Nat) (hZ : 30000 < Z) (v : LST) (h : zRel v) (x1 x2 x3 : Int32) : ∃ v1, stp_0 Z v x1 x2 x3 = some v1 ∧ zRel v1 := by
  obtain ⟨c, s0, s1, k0, k1, g, nx, sz, ch, len, cur, vb, fi, se, p, sv, asd, tx, st, ql, qa, qlt, q1, q2, qn⟩ := v
  obtain ⟨hA, hB, hT⟩ := h
  obtain ⟨r, c', g', nx', sz', q', sv', st', h1, h2, h3, h4⟩ := (zz_buy (Z := Z) (by omega) hA.1 x1 x2).go (by omega) hA hB
  have h1' : f_X6_buy Z c s0 s1 k0 k1 g nx sz x1 x2 = some (r, c', g', nx', sz') := h1
  have h2' : f_X7_buy Z p sv st x1 x2 = some (r, q', sv', st') := h2
  have e : f_L_0 Z c s0 s1 k0 k1 g nx sz p sv st x1 x2 = some (c', g', nx', sz', q', sv', st') := by
    unfold f_L_0
    rw [h1', zob5, h2', zob4, if_pos rfl]
  refine ⟨(c', s0, s1, k0, k1, g', nx', sz', ch, len, cur, vb, fi, se, q', sv', asd, tx, st', ql, qa, qlt, q1, q2, qn), ?_, h3, h4, hT⟩
  show (f_L_0 Z c s0 s1 k0 k1 g nx sz p sv st x1 x2).map _ = _
  rw [e]
  rfl
theorem zs_1 (Z : Nat) (hZ : 30000 < Z) (v : LST) (h : zRel v) (x1 x2 x3 : Int32) : ∃ v1, stp_1 Z v x1 x2 x3 = some v1 ∧ zRel v1 := by
  obtain ⟨c, s0, s1, k0, k1, g, nx, sz, ch, len, cur, vb, fi, se, p, sv, asd, tx, st, ql, qa, qlt, q1, q2, qn⟩ := v
  obtain ⟨hA, hB, hT⟩ := h
  obtain ⟨r, c', g', nx', sz', q', sv', st', h1, h2, h3, h4⟩ := (zz_set (Z := Z) (by omega) hA.1 x1 x2).go (by omega) hA hB
  have h1' : f_X6_set c s0 s1 k0 k1 g nx sz x1 x2 = (r, c', g', nx', sz') := Option.some.inj h1
  have h2' : f_X7_set Z p sv st x1 x2 = some (r, q', sv', st') := h2
  have e : f_L_1 Z c s0 s1 k0 k1 g nx sz p sv st x1 x2 = some (c', g', nx', sz', q', sv', st') := by
    unfold f_L_1
    rw [h1', zpl5, h2', zob4, if_pos rfl]
  refine ⟨(c', s0, s1, k0, k1, g', nx', sz', ch, len, cur, vb, fi, se, q', sv', asd, tx, st', ql, qa, qlt, q1, q2, qn), ?_, h3, h4, hT⟩
  show (f_L_1 Z c s0 s1 k0 k1 g nx sz p sv st x1 x2).map _ = _
  rw [e]
  rfl
theorem zs_2 (Z : Nat) (hZ : 30000 < Z) (v : LST) (h : zRel v) (x1 x2 x3 : Int32) : ∃ v1, stp_2 Z v x1 x2 x3 = some v1 ∧ zRel v1 := by
  obtain ⟨c, s0, s1, k0, k1, g, nx, sz, ch, len, cur, vb, fi, se, p, sv, asd, tx, st, ql, qa, qlt, q1, q2, qn⟩ := v
  obtain ⟨hA, hB, hT⟩ := h
  obtain ⟨r, c', g', nx', sz', q', sv', st', h1, h2, h3, h4⟩ := (zz_borrow (Z := Z) (by omega) hA.1 x1 x2).go (by omega) hA hB
  have h1' : f_X6_borrow Z c s0 s1 k0 k1 g nx sz x1 x2 = some (r, c', g', nx', sz') := h1
  have h2' : f_X7_borrow Z p sv st x1 x2 = some (r, q', sv', st') := h2
  have e : f_L_2 Z c s0 s1 k0 k1 g nx sz p sv st x1 x2 = some (c', g', nx', sz', q', sv', st') := by
    unfold f_L_2
    rw [h1', zob5, h2', zob4, if_pos rfl]
  refine ⟨(c', s0, s1, k0, k1, g', nx', sz', ch, len, cur, vb, fi, se, q', sv', asd, tx, st', ql, qa, qlt, q1, q2, qn), ?_, h3, h4, hT⟩
  show (f_L_2 Z c s0 s1 k0 k1 g nx sz p sv st x1 x2).map _ = _
  rw [e]
  rfl
theorem zs_3 (Z : Nat) (hZ : 30000 < Z) (v : LST) (h : zRel v) (x1 x2 x3 : Int32) : ∃ v1, stp_3 Z v x1 x2 x3 = some v1 ∧ zRel v1 := by
  obtain ⟨c, s0, s1, k0, k1, g, nx, sz, ch, len, cur, vb, fi, se, p, sv, asd, tx, st, ql, qa, qlt, q1, q2, qn⟩ := v
  obtain ⟨hA, hB, hT⟩ := h
  obtain ⟨r, c', g', nx', sz', q', sv', st', h1, h2, h3, h4⟩ := (zz_bringBack (Z := Z) (by omega) hA.1 x1 x2).go (by omega) hA hB
  have h1' : f_X6_bringBack Z c s0 s1 k0 k1 g nx sz x1 x2 = some (r, c', g', nx', sz') := h1
  have h2' : f_X7_bringBack Z p sv st x1 x2 = some (r, q', sv', st') := h2
  have e : f_L_3 Z c s0 s1 k0 k1 g nx sz p sv st x1 x2 = some (c', g', nx', sz', q', sv', st') := by
    unfold f_L_3
    rw [h1', zob5, h2', zob4, if_pos rfl]
  refine ⟨(c', s0, s1, k0, k1, g', nx', sz', ch, len, cur, vb, fi, se, q', sv', asd, tx, st', ql, qa, qlt, q1, q2, qn), ?_, h3, h4, hT⟩
  show (f_L_3 Z c s0 s1 k0 k1 g nx sz p sv st x1 x2).map _ = _
  rw [e]
  rfl
theorem zs_4 (Z : Nat) (hZ : 30000 < Z) (v : LST) (h : zRel v) (x1 x2 x3 : Int32) : ∃ v1, stp_4 Z v x1 x2 x3 = some v1 ∧ zRel v1 := by
  obtain ⟨c, s0, s1, k0, k1, g, nx, sz, ch, len, cur, vb, fi, se, p, sv, asd, tx, st, ql, qa, qlt, q1, q2, qn⟩ := v
  obtain ⟨hA, hB, hT⟩ := h
  obtain ⟨r, c', g', nx', sz', q', sv', st', h1, h2, h3, h4⟩ := (zz_hour (Z := Z) (by omega) hA.1 x1 x2).go (by omega) hA hB
  have h1' : f_X6_hour Z c s0 s1 k0 k1 g nx sz x1 x2 = some (r, c', g', nx', sz') := h1
  have h2' : f_X7_hour Z p sv st x1 x2 = some (r, q', sv', st') := h2
  have e : f_L_4 Z c s0 s1 k0 k1 g nx sz p sv st x1 x2 = some (c', g', nx', sz', q', sv', st') := by
    unfold f_L_4
    rw [h1', zob5, h2', zob4, if_pos rfl]
  refine ⟨(c', s0, s1, k0, k1, g', nx', sz', ch, len, cur, vb, fi, se, q', sv', asd, tx, st', ql, qa, qlt, q1, q2, qn), ?_, h3, h4, hT⟩
  show (f_L_4 Z c s0 s1 k0 k1 g nx sz p sv st x1 x2).map _ = _
  rw [e]
  rfl
theorem zs_5 (Z : Nat) (hZ : 30000 < Z) (v : LST) (h : zRel v) (x1 x2 x3 : Int32) : ∃ v1, stp_5 Z v x1 x2 x3 = some v1 ∧ zRel v1 := by
  obtain ⟨c, s0, s1, k0, k1, g, nx, sz, ch, len, cur, vb, fi, se, p, sv, asd, tx, st, ql, qa, qlt, q1, q2, qn⟩ := v
  obtain ⟨hA, hB, hT⟩ := h
  obtain ⟨r, c', g', nx', sz', q', sv', st', h1, h2, h3, h4⟩ := (zz_load (Z := Z) (by omega) hA.1 x1 x2 x3).go (by omega) hA hB
  have h1' : f_X6_load Z c s0 s1 k0 k1 g nx sz x1 x2 x3 = some (r, c', g', nx', sz') := h1
  have h2' : f_X7_load Z p sv st x1 x2 x3 = some (r, q', sv', st') := h2
  have e : f_L_5 Z c s0 s1 k0 k1 g nx sz p sv st x1 x2 x3 = some (c', g', nx', sz', q', sv', st') := by
    unfold f_L_5
    rw [h1', zob5, h2', zob4, if_pos rfl]
  refine ⟨(c', s0, s1, k0, k1, g', nx', sz', ch, len, cur, vb, fi, se, q', sv', asd, tx, st', ql, qa, qlt, q1, q2, qn), ?_, h3, h4, hT⟩
  show (f_L_5 Z c s0 s1 k0 k1 g nx sz p sv st x1 x2 x3).map _ = _
  rw [e]
  rfl
theorem zs_6 (Z : Nat) (hZ : 30000 < Z) (v : LST) (h : zRel v) (x1 x2 x3 : Int32) : ∃ v1, stp_6 Z v x1 x2 x3 = some v1 ∧ zRel v1 := by
  obtain ⟨c, s0, s1, k0, k1, g, nx, sz, ch, len, cur, vb, fi, se, p, sv, asd, tx, st, ql, qa, qlt, q1, q2, qn⟩ := v
  obtain ⟨hA, hB, hT⟩ := h
  obtain ⟨r, c', g', nx', sz', q', sv', st', h1, h2, h3, h4⟩ := (zz_unload (Z := Z) (by omega) hA.1 x1 x2 x3).go (by omega) hA hB
  have h1' : f_X6_unload Z c s0 s1 k0 k1 g nx sz x1 x2 x3 = some (r, c', g', nx', sz') := h1
  have h2' : f_X7_unload Z p sv st x1 x2 x3 = some (r, q', sv', st') := h2
  have e : f_L_6 Z c s0 s1 k0 k1 g nx sz p sv st x1 x2 x3 = some (c', g', nx', sz', q', sv', st') := by
    unfold f_L_6
    rw [h1', zob5, h2', zob4, if_pos rfl]
  refine ⟨(c', s0, s1, k0, k1, g', nx', sz', ch, len, cur, vb, fi, se, q', sv', asd, tx, st', ql, qa, qlt, q1, q2, qn), ?_, h3, h4, hT⟩
  show (f_L_6 Z c s0 s1 k0 k1 g nx sz p sv st x1 x2 x3).map _ = _
  rw [e]
  rfl
theorem zs_7 (Z : Nat) (hZ : 30000 < Z) (v : LST) (h : zRel v) (x1 x2 x3 : Int32) : ∃ v1, stp_7 Z v x1 x2 x3 = some v1 ∧ zRel v1 := by
  obtain ⟨c, s0, s1, k0, k1, g, nx, sz, ch, len, cur, vb, fi, se, p, sv, asd, tx, st, ql, qa, qlt, q1, q2, qn⟩ := v
  obtain ⟨hA, hB, hT⟩ := h
  obtain ⟨r, c', g', nx', sz', q', sv', st', h1, h2, h3, h4⟩ := (zz_toWorkshop (Z := Z) (by omega) hA.1 x1).go (by omega) hA hB
  have h1' : f_X6_toWorkshop Z c s0 s1 k0 k1 g nx sz x1 = some (r, c', g', nx', sz') := h1
  have h2' : f_X7_toWorkshop Z p sv st x1 = some (r, q', sv', st') := h2
  have e : f_L_7 Z c s0 s1 k0 k1 g nx sz p sv st x1 = some (c', g', nx', sz', q', sv', st') := by
    unfold f_L_7
    rw [h1', zob5, h2', zob4, if_pos rfl]
  refine ⟨(c', s0, s1, k0, k1, g', nx', sz', ch, len, cur, vb, fi, se, q', sv', asd, tx, st', ql, qa, qlt, q1, q2, qn), ?_, h3, h4, hT⟩
  show (f_L_7 Z c s0 s1 k0 k1 g nx sz p sv st x1).map _ = _
  rw [e]
  rfl
theorem zs_8 (Z : Nat) (hZ : 30000 < Z) (v : LST) (h : zRel v) (x1 x2 x3 : Int32) : ∃ v1, stp_8 Z v x1 x2 x3 = some v1 ∧ zRel v1 := by
  obtain ⟨c, s0, s1, k0, k1, g, nx, sz, ch, len, cur, vb, fi, se, p, sv, asd, tx, st, ql, qa, qlt, q1, q2, qn⟩ := v
  obtain ⟨hA, hB, hT⟩ := h
  obtain ⟨r, c', g', nx', sz', q', sv', st', h1, h2, h3, h4⟩ := (zz_mend (Z := Z) (by omega) hA.1 x1).go (by omega) hA hB
  have h1' : f_X6_mend Z c s0 s1 k0 k1 g nx sz x1 = some (r, c', g', nx', sz') := h1
  have h2' : f_X7_mend Z p sv st x1 = some (r, q', sv', st') := h2
  have e : f_L_8 Z c s0 s1 k0 k1 g nx sz p sv st x1 = some (c', g', nx', sz', q', sv', st') := by
    unfold f_L_8
    rw [h1', zob5, h2', zob4, if_pos rfl]
  refine ⟨(c', s0, s1, k0, k1, g', nx', sz', ch, len, cur, vb, fi, se, q', sv', asd, tx, st', ql, qa, qlt, q1, q2, qn), ?_, h3, h4, hT⟩
  show (f_L_8 Z c s0 s1 k0 k1 g nx sz p sv st x1).map _ = _
  rw [e]
  rfl
theorem zs_9 (Z : Nat) (hZ : 30000 < Z) (v : LST) (h : zRel v) (x1 x2 x3 : Int32) : ∃ v1, stp_9 Z v x1 x2 x3 = some v1 ∧ zRel v1 := by
  obtain ⟨c, s0, s1, k0, k1, g, nx, sz, ch, len, cur, vb, fi, se, p, sv, asd, tx, st, ql, qa, qlt, q1, q2, qn⟩ := v
  obtain ⟨hA, hB, hT⟩ := h
  obtain ⟨r, c', g', nx', sz', q', sv', st', h1, h2, h3, h4⟩ := (zz_level (Z := Z) hZ hA.1).go (by omega) hA hB
  have h1' : f_X6_level Z c s0 s1 k0 k1 g nx sz = some (r, c', g', nx', sz') := h1
  have h2' : f_X7_level Z p sv st = some (r, q', sv', st') := h2
  have e : f_L_9 Z c s0 s1 k0 k1 g nx sz p sv st = some (c', g', nx', sz', q', sv', st') := by
    unfold f_L_9
    rw [h1', zob5, h2', zob4, if_pos rfl]
  refine ⟨(c', s0, s1, k0, k1, g', nx', sz', ch, len, cur, vb, fi, se, q', sv', asd, tx, st', ql, qa, qlt, q1, q2, qn), ?_, h3, h4, hT⟩
  show (f_L_9 Z c s0 s1 k0 k1 g nx sz p sv st).map _ = _
  rw [e]
  rfl
theorem zs_10 (Z : Nat) (hZ : 30000 < Z) (v : LST) (h : zRel v) (x1 x2 x3 : Int32) : ∃ v1, stp_10 Z v x1 x2 x3 = some v1 ∧ zRel v1 := by
  obtain ⟨c, s0, s1, k0, k1, g, nx, sz, ch, len, cur, vb, fi, se, p, sv, asd, tx, st, ql, qa, qlt, q1, q2, qn⟩ := v
  obtain ⟨hA, hB, hT⟩ := h
  obtain ⟨r, s0', s1', k0', k1', g', nx', sz', q', sv', st', h1, h2, h3, h4⟩ := zz_take (Z := Z) (by omega) hA hB x1
  have h1' : f_X6_take c s0 s1 k0 k1 g nx sz x1 = (r, s0', s1', k0', k1', g', nx', sz') := h1
  have h2' : f_X7_take Z p sv st x1 = some (r, q', sv', st') := h2
  have e : f_L_10 Z c s0 s1 k0 k1 g nx sz p sv st x1 = some (s0', s1', k0', k1', g', nx', sz', q', sv', st') := by
    unfold f_L_10
    rw [h1', zpl8, h2', zob4, if_pos rfl]
  refine ⟨(c, s0', s1', k0', k1', g', nx', sz', ch, len, cur, vb, fi, se, q', sv', asd, tx, st', ql, qa, qlt, q1, q2, qn), ?_, h3, h4, hT⟩
  show (f_L_10 Z c s0 s1 k0 k1 g nx sz p sv st x1).map _ = _
  rw [e]
  rfl
theorem zs_11 (Z : Nat) (hZ : 30000 < Z) (v : LST) (h : zRel v) (x1 x2 x3 : Int32) : ∃ v1, stp_11 Z v x1 x2 x3 = some v1 ∧ zRel v1 := by
  obtain ⟨c, s0, s1, k0, k1, g, nx, sz, ch, len, cur, vb, fi, se, p, sv, asd, tx, st, ql, qa, qlt, q1, q2, qn⟩ := v
  obtain ⟨hA, hB, hT⟩ := h
  obtain ⟨r, c', g', nx', sz', q', sv', st', h1, h2, h3, h4⟩ := zz_restore (Z := Z) (by omega) hA hB x1
  have h1' : f_X6_restore c s0 s1 k0 k1 g nx sz x1 = (r, c', g', nx', sz') := h1
  have h2' : f_X7_restore Z p sv st x1 = some (r, q', sv', st') := h2
  have e : f_L_11 Z c s0 s1 k0 k1 g nx sz p sv st x1 = some (c', g', nx', sz', q', sv', st') := by
    unfold f_L_11
    rw [h1', zpl5, h2', zob4, if_pos rfl]
  refine ⟨(c', s0, s1, k0, k1, g', nx', sz', ch, len, cur, vb, fi, se, q', sv', asd, tx, st', ql, qa, qlt, q1, q2, qn), ?_, h3, h4, hT⟩
  show (f_L_11 Z c s0 s1 k0 k1 g nx sz p sv st x1).map _ = _
  rw [e]
  rfl
theorem zs_12 (Z : Nat) (hZ : 30000 < Z) (v : LST) (h : zRel v) (x1 x2 x3 : Int32) : ∃ v1, stp_12 Z v x1 x2 x3 = some v1 ∧ zRel v1 := by
  obtain ⟨c, s0, s1, k0, k1, g, nx, sz, ch, len, cur, vb, fi, se, p, sv, asd, tx, st, ql, qa, qlt, q1, q2, qn⟩ := v
  obtain ⟨hA, hB, hT⟩ := h
  obtain ⟨r, c', s0', s1', k0', k1', nx', sz', q', st', h1, h2, h3, h4⟩ := zz_undo (Z := Z) (by omega) hA hB
  have h1' : f_X6_undo c s0 s1 k0 k1 g nx sz = (r, c', s0', s1', k0', k1', nx', sz') := h1
  have h2' : f_X7_undo Z p sv st = some (r, q', st') := h2
  have e : f_L_12 Z c s0 s1 k0 k1 g nx sz p sv st = some (c', s0', s1', k0', k1', nx', sz', q', st') := by
    unfold f_L_12
    rw [h1', zpl8, h2', zob3, if_pos rfl]
  refine ⟨(c', s0', s1', k0', k1', g, nx', sz', ch, len, cur, vb, fi, se, q', sv, asd, tx, st', ql, qa, qlt, q1, q2, qn), ?_, h3, h4, hT⟩
  show (f_L_12 Z c s0 s1 k0 k1 g nx sz p sv st).map _ = _
  rw [e]
  rfl
theorem zs_13 (Z : Nat) (hZ : 30000 < Z) (v : LST) (h : zRel v) (x1 x2 x3 : Int32) : ∃ v1, stp_13 Z v x1 x2 x3 = some v1 ∧ zRel v1 := by
  obtain ⟨c, s0, s1, k0, k1, g, nx, sz, ch, len, cur, vb, fi, se, p, sv, asd, tx, st, ql, qa, qlt, q1, q2, qn⟩ := v
  obtain ⟨hA, hB, hT⟩ := h
  obtain ⟨m, hm, e1, e2, ht⟩ := hT
  have e1' : len = nI m := e1
  have e2' : ql = nI m := e2
  subst e1' e2'
  obtain ⟨r, ch', tx', m', hm', h1, h2, h3⟩ := zz_append hm ht x1
  have h1' : f_X6_append ch (nI m) x1 = (r, ch', nI m') := h1
  have h2' : f_X7_append tx (nI m) x1 = some (r, tx', nI m') := h2
  have e : f_L_13 ch (nI m) tx (nI m) x1 = some (ch', nI m', tx', nI m') := by
    unfold f_L_13
    rw [h1', zpl3, h2', zob3, if_pos rfl]
  refine ⟨(c, s0, s1, k0, k1, g, nx, sz, ch', nI m', cur, vb, fi, se, p, sv, asd, tx', st, nI m', qa, qlt, q1, q2, qn), ?_, hA, hB, m', hm', rfl, rfl, h3⟩
  show (f_L_13 ch (nI m) tx (nI m) x1).map _ = _
  rw [e]
  rfl
theorem zs_14 (Z : Nat) (hZ : 30000 < Z) (v : LST) (h : zRel v) (x1 x2 x3 : Int32) : ∃ v1, stp_14 Z v x1 x2 x3 = some v1 ∧ zRel v1 := by
  obtain ⟨c, s0, s1, k0, k1, g, nx, sz, ch, len, cur, vb, fi, se, p, sv, asd, tx, st, ql, qa, qlt, q1, q2, qn⟩ := v
  obtain ⟨hA, hB, hT⟩ := h
  obtain ⟨m, hm, e1, e2, ht⟩ := hT
  have e1' : len = nI m := e1
  have e2' : ql = nI m := e2
  subst e1' e2'
  have e : f_L_14 (nI m) (nI m) = some (0, 0) := by
    unfold f_L_14 f_X6_clearText f_X7_clearText
    rw [zpl2, zpl2, if_pos rfl]
  refine ⟨(c, s0, s1, k0, k1, g, nx, sz, ch, 0, cur, vb, fi, se, p, sv, asd, tx, st, 0, qa, qlt, q1, q2, qn), ?_, hA, hB, 0, by omega, rfl, rfl, fun i hi => by omega⟩
  show (f_L_14 (nI m) (nI m)).map _ = _
  rw [e]
  rfl
theorem zs_15 (Z : Nat) (hZ : 30000 < Z) (v : LST) (h : zRel v) (x1 x2 x3 : Int32) : ∃ v1, stp_15 Z v x1 x2 x3 = some v1 ∧ zRel v1 := by
  obtain ⟨c, s0, s1, k0, k1, g, nx, sz, ch, len, cur, vb, fi, se, p, sv, asd, tx, st, ql, qa, qlt, q1, q2, qn⟩ := v
  obtain ⟨hA, hB, hT⟩ := h
  obtain ⟨m, hm, e1, e2, ht⟩ := hT
  have e1' : len = nI m := e1
  have e2' : ql = nI m := e2
  subst e1' e2'
  obtain ⟨r, c', g', nx', sz', m', cur', vb', fi', se', q', sv', st', at', lt', on', tw', nu', hm', h1, h2, h3, h4, h5⟩ := zz_carryOut hZ hA hB hm ht vb fi se q1 q2 qn
  have h1' : f_X6_carryOut Z c s0 s1 k0 k1 g nx sz ch (nI m) vb fi se = some (r, c', g', nx', sz', nI m', cur', vb', fi', se') := h1
  have h2' : f_X7_carryOut Z p sv tx st (nI m) q1 q2 qn = some (r, q', sv', st', nI m', at', lt', on', tw', nu') := h2
  have e : f_L_15 Z c s0 s1 k0 k1 g nx sz ch (nI m) vb fi se p sv tx st (nI m) q1 q2 qn = some (c', g', nx', sz', nI m', cur', vb', fi', se', q', sv', st', nI m', at', lt', on', tw', nu') := by
    unfold f_L_15
    rw [h1', zob10, h2', zob10, if_pos rfl]
  refine ⟨(c', s0, s1, k0, k1, g', nx', sz', ch, nI m', cur', vb', fi', se', q', sv', asd, tx, st', nI m', at', lt', on', tw', nu'), ?_, h3, h4, m', hm', rfl, rfl, h5⟩
  show (f_L_15 Z c s0 s1 k0 k1 g nx sz ch (nI m) vb fi se p sv tx st (nI m) q1 q2 qn).map _ = _
  rw [e]
  rfl
theorem zs_16 (Z : Nat) (hZ : 30000 < Z) (v : LST) (h : zRel v) (x1 x2 x3 : Int32) : ∃ v1, stp_16 Z v x1 x2 x3 = some v1 ∧ zRel v1 := by
  obtain ⟨c, s0, s1, k0, k1, g, nx, sz, ch, len, cur, vb, fi, se, p, sv, asd, tx, st, ql, qa, qlt, q1, q2, qn⟩ := v
  obtain ⟨hA, hB, hT⟩ := h
  obtain ⟨m, hm, e1, e2, ht⟩ := id hT
  have e1' : len = nI m := e1
  have e2' : ql = nI m := e2
  obtain ⟨r, h1, h2⟩ := zz_count (Z := Z) (len := nI m) (by omega) hA hB x1
  have h1' : f_X6_count Z c k0 k1 sz (nI m) x1 = some r := h1
  have h2' : f_X7_count Z p st (nI m) x1 = some r := h2
  have e : f_L_16 Z c k0 k1 sz len p st ql x1 = some () := by
    unfold f_L_16
    rw [e1', e2', h1', zob1, h2', zob1, if_pos rfl]
  refine ⟨(c, s0, s1, k0, k1, g, nx, sz, ch, len, cur, vb, fi, se, p, sv, asd, tx, st, ql, qa, qlt, q1, q2, qn), ?_, hA, hB, hT⟩
  show (f_L_16 Z c k0 k1 sz len p st ql x1).map _ = _
  rw [e]
  rfl
theorem zs_17 (Z : Nat) (hZ : 30000 < Z) (v : LST) (h : zRel v) (x1 x2 x3 : Int32) : ∃ v1, stp_17 Z v x1 x2 x3 = some v1 ∧ zRel v1 := by
  obtain ⟨c, s0, s1, k0, k1, g, nx, sz, ch, len, cur, vb, fi, se, p, sv, asd, tx, st, ql, qa, qlt, q1, q2, qn⟩ := v
  obtain ⟨hA, hB, hT⟩ := h
  have h1 : f_X7_umbrella p x1 x2 = some (f_X6_umbrella c x1 x2) := zz_umbrella hA.1 x1 x2
  have e : f_L_17 c p x1 x2 = some () := by
    unfold f_L_17
    rw [h1, zob1, if_pos rfl]
  refine ⟨(c, s0, s1, k0, k1, g, nx, sz, ch, len, cur, vb, fi, se, p, sv, asd, tx, st, ql, qa, qlt, q1, q2, qn), ?_, hA, hB, hT⟩
  show (f_L_17 c p x1 x2).map _ = _
  rw [e]
  rfl
theorem zs_18 (Z : Nat) (hZ : 30000 < Z) (v : LST) (h : zRel v) (x1 x2 x3 : Int32) : ∃ v1, stp_18 Z v x1 x2 x3 = some v1 ∧ zRel v1 := by
  obtain ⟨c, s0, s1, k0, k1, g, nx, sz, ch, len, cur, vb, fi, se, p, sv, asd, tx, st, ql, qa, qlt, q1, q2, qn⟩ := v
  obtain ⟨hA, hB, hT⟩ := h
  obtain ⟨r, h1, h2⟩ := zz_stand (Z := Z) (by omega) hA.1 x1 x2
  have h1' : f_X6_stand Z c x1 x2 = some r := h1
  have h2' : f_X7_stand Z p x1 x2 = some r := h2
  have e : f_L_18 Z c p x1 x2 = some () := by
    unfold f_L_18
    rw [h1', zob1, h2', zob1, if_pos rfl]
  refine ⟨(c, s0, s1, k0, k1, g, nx, sz, ch, len, cur, vb, fi, se, p, sv, asd, tx, st, ql, qa, qlt, q1, q2, qn), ?_, hA, hB, hT⟩
  show (f_L_18 Z c p x1 x2).map _ = _
  rw [e]
  rfl
theorem zs_19 (Z : Nat) (hZ : 30000 < Z) (v : LST) (h : zRel v) (x1 x2 x3 : Int32) : ∃ v1, stp_19 Z v x1 x2 x3 = some v1 ∧ zRel v1 := by
  obtain ⟨c, s0, s1, k0, k1, g, nx, sz, ch, len, cur, vb, fi, se, p, sv, asd, tx, st, ql, qa, qlt, q1, q2, qn⟩ := v
  obtain ⟨hA, hB, hT⟩ := h
  obtain ⟨r, h1, h2⟩ := zz_person (Z := Z) (by omega) hA.1 x1 x2
  have h1' : f_X6_person Z c x1 x2 = some r := h1
  have h2' : f_X7_person p x1 x2 = some r := h2
  have e : f_L_19 Z c p x1 x2 = some () := by
    unfold f_L_19
    rw [h1', zob1, h2', zob1, if_pos rfl]
  refine ⟨(c, s0, s1, k0, k1, g, nx, sz, ch, len, cur, vb, fi, se, p, sv, asd, tx, st, ql, qa, qlt, q1, q2, qn), ?_, hA, hB, hT⟩
  show (f_L_19 Z c p x1 x2).map _ = _
  rw [e]
  rfl
theorem zs_20 (Z : Nat) (hZ : 30000 < Z) (v : LST) (h : zRel v) (x1 x2 x3 : Int32) : ∃ v1, stp_20 Z v x1 x2 x3 = some v1 ∧ zRel v1 := by
  obtain ⟨c, s0, s1, k0, k1, g, nx, sz, ch, len, cur, vb, fi, se, p, sv, asd, tx, st, ql, qa, qlt, q1, q2, qn⟩ := v
  obtain ⟨hA, hB, hT⟩ := h
  obtain ⟨r, h1, h2⟩ := zz_inVan (Z := Z) (by omega) hA.1 x1 x2
  have h1' : f_X6_inVan Z c x1 x2 = some r := h1
  have h2' : f_X7_inVan Z p x1 x2 = some r := h2
  have e : f_L_20 Z c p x1 x2 = some () := by
    unfold f_L_20
    rw [h1', zob1, h2', zob1, if_pos rfl]
  refine ⟨(c, s0, s1, k0, k1, g, nx, sz, ch, len, cur, vb, fi, se, p, sv, asd, tx, st, ql, qa, qlt, q1, q2, qn), ?_, hA, hB, hT⟩
  show (f_L_20 Z c p x1 x2).map _ = _
  rw [e]
  rfl
theorem zs_21 (Z : Nat) (hZ : 30000 < Z) (v : LST) (h : zRel v) (x1 x2 x3 : Int32) : ∃ v1, stp_21 Z v x1 x2 x3 = some v1 ∧ zRel v1 := by
  obtain ⟨c, s0, s1, k0, k1, g, nx, sz, ch, len, cur, vb, fi, se, p, sv, asd, tx, st, ql, qa, qlt, q1, q2, qn⟩ := v
  obtain ⟨hA, hB, hT⟩ := h
  obtain ⟨r, h1, h2⟩ := zz_feeIn (Z := Z) (by omega) hA.1 x1 x2 x3
  have h1' : f_X6_feeIn Z c x1 x2 x3 = some r := h1
  have h2' : f_X7_feeIn Z p x1 x2 x3 = some r := h2
  have e : f_L_21 Z c p x1 x2 x3 = some () := by
    unfold f_L_21
    rw [h1', zob1, h2', zob1, if_pos rfl]
  refine ⟨(c, s0, s1, k0, k1, g, nx, sz, ch, len, cur, vb, fi, se, p, sv, asd, tx, st, ql, qa, qlt, q1, q2, qn), ?_, hA, hB, hT⟩
  show (f_L_21 Z c p x1 x2 x3).map _ = _
  rw [e]
  rfl
theorem zs_22 (Z : Nat) (hZ : 30000 < Z) (v : LST) (h : zRel v) (x1 x2 x3 : Int32) : ∃ v1, stp_22 Z v x1 x2 x3 = some v1 ∧ zRel v1 := by
  obtain ⟨c, s0, s1, k0, k1, g, nx, sz, ch, len, cur, vb, fi, se, p, sv, asd, tx, st, ql, qa, qlt, q1, q2, qn⟩ := v
  obtain ⟨hA, hB, hT⟩ := h
  obtain ⟨r, h1, h2⟩ := zz_breaksIn (Z := Z) (by omega) hA.1 x1 x2 x3
  have h1' : f_X6_breaksIn Z c x1 x2 x3 = some r := h1
  have h2' : f_X7_breaksIn Z p x1 x2 x3 = some r := h2
  have e : f_L_22 Z c p x1 x2 x3 = some () := by
    unfold f_L_22
    rw [h1', zob1, h2', zob1, if_pos rfl]
  refine ⟨(c, s0, s1, k0, k1, g, nx, sz, ch, len, cur, vb, fi, se, p, sv, asd, tx, st, ql, qa, qlt, q1, q2, qn), ?_, hA, hB, hT⟩
  show (f_L_22 Z c p x1 x2 x3).map _ = _
  rw [e]
  rfl
theorem zs_24 (Z : Nat) (hZ : 30000 < Z) (v : LST) (h : zRel v) (x1 x2 x3 : Int32) : ∃ v1, stp_24 Z v x1 x2 x3 = some v1 ∧ zRel v1 := by
  obtain ⟨c, s0, s1, k0, k1, g, nx, sz, ch, len, cur, vb, fi, se, p, sv, asd, tx, st, ql, qa, qlt, q1, q2, qn⟩ := v
  obtain ⟨hA, hB, hT⟩ := h
  obtain ⟨r, h1, h2⟩ := zz_shortest (Z := Z) (by omega) hA.1 x1
  have h1' : f_X6_shortest Z c x1 = some r := h1
  have h2' : f_X7_shortest Z p x1 = some r := h2
  have e : f_L_24 Z c p x1 = some () := by
    unfold f_L_24
    rw [h1', zob1, h2', zob1, if_pos rfl]
  refine ⟨(c, s0, s1, k0, k1, g, nx, sz, ch, len, cur, vb, fi, se, p, sv, asd, tx, st, ql, qa, qlt, q1, q2, qn), ?_, hA, hB, hT⟩
  show (f_L_24 Z c p x1).map _ = _
  rw [e]
  rfl
theorem zs_23 (Z : Nat) (hZ : 30000 < Z) (v : LST) (h : zRel v) (x1 x2 x3 : Int32) : ∃ v1, stp_23 Z v x1 x2 x3 = some v1 ∧ zRel v1 := by
  obtain ⟨c, s0, s1, k0, k1, g, nx, sz, ch, len, cur, vb, fi, se, p, sv, asd, tx, st, ql, qa, qlt, q1, q2, qn⟩ := v
  obtain ⟨hA, hB, hT⟩ := h
  obtain ⟨r, q', asd', h1, h2, h3⟩ := zz_emptied (Z := Z) (by omega) hA.1 asd
  have h1' : f_X6_emptied Z c = some r := h1
  have h2' : f_X7_emptied Z p asd = some (r, q', asd') := h2
  have e : f_L_23 Z c p asd = some (q', asd') := by
    unfold f_L_23
    rw [h1', zob1, h2', zob3, if_pos rfl]
  refine ⟨(c, s0, s1, k0, k1, g, nx, sz, ch, len, cur, vb, fi, se, q', sv, asd', tx, st, ql, qa, qlt, q1, q2, qn), ?_, hA.fr (fun j _ => h3 j), hB, hT⟩
  show (f_L_23 Z c p asd).map _ = _
  rw [e]
  rfl
theorem zStep (Z : Nat) (hZ : 30000 < Z) (v : LST) (x s1 s2 s3 : Int32) (h : zRel v) : ∃ v1, stp Z v x s1 s2 s3 = some v1 ∧ zRel v1 := by
  unfold stp
  by_cases e0 : x = 0
  · rw [if_pos e0]; exact zs_0 Z hZ v h s1 s2 s3
  rw [if_neg e0]
  by_cases e1 : x = 1
  · rw [if_pos e1]; exact zs_1 Z hZ v h s1 s2 s3
  rw [if_neg e1]
  by_cases e2 : x = 2
  · rw [if_pos e2]; exact zs_2 Z hZ v h s1 s2 s3
  rw [if_neg e2]
  by_cases e3 : x = 3
  · rw [if_pos e3]; exact zs_3 Z hZ v h s1 s2 s3
  rw [if_neg e3]
  by_cases e4 : x = 4
  · rw [if_pos e4]; exact zs_4 Z hZ v h s1 s2 s3
  rw [if_neg e4]
  by_cases e5 : x = 5
  · rw [if_pos e5]; exact zs_5 Z hZ v h s1 s2 s3
  rw [if_neg e5]
  by_cases e6 : x = 6
  · rw [if_pos e6]; exact zs_6 Z hZ v h s1 s2 s3
  rw [if_neg e6]
  by_cases e7 : x = 7
  · rw [if_pos e7]; exact zs_7 Z hZ v h s1 s2 s3
  rw [if_neg e7]
  by_cases e8 : x = 8
  · rw [if_pos e8]; exact zs_8 Z hZ v h s1 s2 s3
  rw [if_neg e8]
  by_cases e9 : x = 9
  · rw [if_pos e9]; exact zs_9 Z hZ v h s1 s2 s3
  rw [if_neg e9]
  by_cases e10 : x = 10
  · rw [if_pos e10]; exact zs_10 Z hZ v h s1 s2 s3
  rw [if_neg e10]
  by_cases e11 : x = 11
  · rw [if_pos e11]; exact zs_11 Z hZ v h s1 s2 s3
  rw [if_neg e11]
  by_cases e12 : x = 12
  · rw [if_pos e12]; exact zs_12 Z hZ v h s1 s2 s3
  rw [if_neg e12]
  by_cases e13 : x = 13
  · rw [if_pos e13]; exact zs_13 Z hZ v h s1 s2 s3
  rw [if_neg e13]
  by_cases e14 : x = 14
  · rw [if_pos e14]; exact zs_14 Z hZ v h s1 s2 s3
  rw [if_neg e14]
  by_cases e15 : x = 15
  · rw [if_pos e15]; exact zs_15 Z hZ v h s1 s2 s3
  rw [if_neg e15]
  by_cases e16 : x = 16
  · rw [if_pos e16]; exact zs_16 Z hZ v h s1 s2 s3
  rw [if_neg e16]
  by_cases e17 : x = 17
  · rw [if_pos e17]; exact zs_17 Z hZ v h s1 s2 s3
  rw [if_neg e17]
  by_cases e18 : x = 18
  · rw [if_pos e18]; exact zs_18 Z hZ v h s1 s2 s3
  rw [if_neg e18]
  by_cases e19 : x = 19
  · rw [if_pos e19]; exact zs_19 Z hZ v h s1 s2 s3
  rw [if_neg e19]
  by_cases e20 : x = 20
  · rw [if_pos e20]; exact zs_20 Z hZ v h s1 s2 s3
  rw [if_neg e20]
  by_cases e21 : x = 21
  · rw [if_pos e21]; exact zs_21 Z hZ v h s1 s2 s3
  rw [if_neg e21]
  by_cases e22 : x = 22
  · rw [if_pos e22]; exact zs_22 Z hZ v h s1 s2 s3
  rw [if_neg e22]
  by_cases e23 : x = 23
  · rw [if_pos e23]; exact zs_23 Z hZ v h s1 s2 s3
  rw [if_neg e23]
  by_cases e24 : x = 24
  · rw [if_pos e24]; exact zs_24 Z hZ v h s1 s2 s3
  rw [if_neg e24]
  exact ⟨v, rfl, h⟩
theorem zRel.ok (v : LST) (h : zRel v) : LOK v := by
  obtain ⟨⟨-, -, -, h1, h2, -, -⟩, ⟨z, -, h3, -, -, -, h4⟩, -⟩ := h
  exact ⟨h1, h2, h3, h4⟩
theorem zRel0 : zRel (lst0 (lstC ((fun j => if j < 60 then 0 else 0), (fun j => if j < 60 then 0 else 0), (fun j => if j < 60 then 0 else 0), (fun j => if j < 24 then 0 else 0), (fun j => if j < 8 then 8 else 0), (fun j => if j < 12 then 40 else 0), (fun j => if j < 12 then 0 else 0), (fun j => if j < 12 then nI (j % 8) else if j < 12 then 0 else 0), (fun j => if j < 12 then 0 else 0))) zm0) := by
  refine ⟨⟨zSt0, ?_, ?_, Or.inl rfl, Or.inl rfl, fun e => absurd e (show ¬ (0 : Int32) = 1 by decide), fun e => absurd e (show ¬ (0 : Int32) = 1 by decide)⟩, ⟨0, by omega, by decide, rfl, rfl, fun i hi => by omega, fun i => ⟨Or.inl rfl, Or.inl rfl⟩⟩, 0, by omega, rfl, rfl, fun i hi => by omega⟩
  · show zm0 328 = 0
    unfold zm0; rw [zun (by omega), zun (by omega), if_neg (by omega), if_neg (by omega), if_neg (by omega), if_neg (by omega)]
  · show zm0 657 = 0
    unfold zm0; rw [zun (by omega), zun (by omega), if_neg (by omega), if_neg (by omega), if_neg (by omega), if_neg (by omega)]
