/-! worlds in blocks -/
def wj : List va_W → va_W
  | [] => []
  | b :: bs => b ++ wj bs
theorem wj_app : ∀ (a b : List va_W), wj (a ++ b) = wj a ++ wj b
  | [], b => rfl
  | x :: a, b => by show x ++ wj (a ++ b) = (x ++ wj a) ++ wj b; rw [wj_app a b, List.append_assoc]
theorem wj_wj (a b : List va_W) : wj (wj a :: b) = wj (a ++ b) := by rw [wj_app]; rfl
theorem wj_one (b : va_W) : wj [b] = b := List.append_nil b
theorem va_P_mem {D : va_G} {cl : List vw_C} {ws : va_W} {H : Heap} : va_P D cl ws H ↔ ∀ q ∈ ws, va_at D cl q H := by
  constructor
  · intro h q hq
    obtain ⟨k, hk⟩ := List.getElem?_of_mem hq
    exact h k q hk
  · intro h k q hk
    exact h q (List.mem_of_getElem? hk)
theorem wj_mem : ∀ (bs : List va_W) (q : Nat × va_E), q ∈ wj bs ↔ ∃ (k : Nat) (b : va_W), bs[k]? = some b ∧ q ∈ b
  | [], q => by simp [wj]
  | b :: bs, q => by
    show q ∈ b ++ wj bs ↔ _
    rw [List.mem_append, wj_mem bs q]
    constructor
    · rintro (h | ⟨k, b', h1, h2⟩)
      · exact ⟨0, b, rfl, h⟩
      · exact ⟨k + 1, b', h1, h2⟩
    · rintro ⟨k, b', h1, h2⟩
      cases k with
      | zero => cases h1; exact Or.inl h2
      | succ k => exact Or.inr ⟨k, b', h1, h2⟩
theorem wj_P {D : va_G} {cl : List vw_C} {bs : List va_W} {H : Heap} : va_P D cl (wj bs) H ↔ ∀ (k : Nat) (b : va_W), bs[k]? = some b → va_P D cl b H := by
  rw [va_P_mem]
  constructor
  · intro h k b hb
    rw [va_P_mem]
    exact fun q hq => h q ((wj_mem bs q).mpr ⟨k, b, hb, hq⟩)
  · intro h q hq
    obtain ⟨k, b, h1, h2⟩ := (wj_mem bs q).mp hq
    exact va_P_mem.mp (h k b h1) q h2
/-- addresses of different blocks are apart -/
def wj_X (bs : List va_W) : Prop := ∀ (i j : Nat) (bi bj : va_W) (p q : Nat × va_E), bs[i]? = some bi → bs[j]? = some bj → p ∈ bi → q ∈ bj → p.1 = q.1 → i = j
theorem va_D_app {A : Nat → Prop} {a b : va_W} : va_D A (a ++ b) ↔ va_D A a ∧ va_D A b ∧ ∀ p ∈ a, ∀ q ∈ b, p.1 ≠ q.1 := by
  constructor
  · intro h
    refine ⟨⟨fun i j p q hi hj hpq => ?_, fun k q hk => ?_⟩, ⟨fun i j p q hi hj hpq => ?_, fun k q hk => ?_⟩, fun p hp q hq hpq => ?_⟩
    · have hi' := (List.getElem?_eq_some_iff.mp hi).1
      have hj' := (List.getElem?_eq_some_iff.mp hj).1
      exact h.1 i j p q (by rw [List.getElem?_append_left hi']; exact hi) (by rw [List.getElem?_append_left hj']; exact hj) hpq
    · have hk' := (List.getElem?_eq_some_iff.mp hk).1
      exact h.2 k q (by rw [List.getElem?_append_left hk']; exact hk)
    · have e := h.1 (a.length + i) (a.length + j) p q (by rw [List.getElem?_append_right (by omega)]; rw [show a.length + i - a.length = i by omega]; exact hi) (by rw [List.getElem?_append_right (by omega)]; rw [show a.length + j - a.length = j by omega]; exact hj) hpq
      omega
    · exact h.2 (a.length + k) q (by rw [List.getElem?_append_right (by omega)]; rw [show a.length + k - a.length = k by omega]; exact hk)
    · obtain ⟨i, hi⟩ := List.getElem?_of_mem hp
      obtain ⟨j, hj⟩ := List.getElem?_of_mem hq
      have hi' := (List.getElem?_eq_some_iff.mp hi).1
      have e := h.1 i (a.length + j) p q (by rw [List.getElem?_append_left hi']; exact hi) (by rw [List.getElem?_append_right (by omega)]; rw [show a.length + j - a.length = j by omega]; exact hj) hpq
      omega
  · rintro ⟨h1, h2, h3⟩
    exact va_D.app h1 h2 (fun i j p q hi hj => h3 p (List.mem_of_getElem? hi) q (List.mem_of_getElem? hj))
theorem wj_D {A : Nat → Prop} : ∀ {bs : List va_W}, va_D A (wj bs) ↔ (∀ (k : Nat) (b : va_W), bs[k]? = some b → va_D A b) ∧ wj_X bs
  | [] => by
    refine ⟨fun _ => ⟨fun k b h => by simp at h, fun i j bi bj p q h => by simp at h⟩, fun _ => ⟨fun i j p q h => by simp [wj] at h, fun k q h => by simp [wj] at h⟩⟩
  | b :: bs => by
    show va_D A (b ++ wj bs) ↔ _
    rw [va_D_app, wj_D (bs := bs)]
    constructor
    · rintro ⟨h1, ⟨h2, h3⟩, h4⟩
      refine ⟨fun k b' hk => ?_, fun i j bi bj p q hi hj hp hq hpq => ?_⟩
      · cases k with
        | zero => cases hk; exact h1
        | succ k => exact h2 k b' hk
      · cases i with
        | zero =>
          cases j with
          | zero => rfl
          | succ j => cases hi; exact absurd hpq (h4 p hp q ((wj_mem bs q).mpr ⟨j, bj, hj, hq⟩))
        | succ i =>
          cases j with
          | zero => cases hj; exact absurd hpq.symm (h4 q hq p ((wj_mem bs p).mpr ⟨i, bi, hi, hp⟩))
          | succ j => rw [h3 i j bi bj p q hi hj hp hq hpq]
    · rintro ⟨h1, h2⟩
      refine ⟨h1 0 b rfl, ⟨fun k b' hk => h1 (k + 1) b' hk, fun i j bi bj p q hi hj hp hq hpq => ?_⟩, fun p hp q hq hpq => ?_⟩
      · have := h2 (i + 1) (j + 1) bi bj p q hi hj hp hq hpq; omega
      · obtain ⟨k, b', hk, hq'⟩ := (wj_mem bs q).mp hq
        have := h2 0 (k + 1) b b' p q rfl hk hp hq' hpq; omega
/-- blocks put back at their places -/
def lput : List va_W → List Nat → List va_W → List va_W
  | ws, i :: is, x :: xs => lput (ws.set i x) is xs
  | ws, _, _ => ws
theorem lput_get : ∀ (is : List Nat) (xs ws : List va_W), va_nd is = true → ∀ (j : Nat) (q : va_W), (lput ws is xs)[j]? = some q → (∃ k : Nat, is[k]? = some j ∧ xs[k]? = some q) ∨ ((j ∉ is ∨ xs.length < is.length) ∧ ws[j]? = some q)
  | [], xs, ws, _, j, q, h => by cases xs <;> exact Or.inr ⟨Or.inl (by simp), h⟩
  | i :: is, [], ws, _, j, q, h => Or.inr ⟨Or.inr (by simp), h⟩
  | i :: is, x :: xs, ws, hn, j, q, h => by
    simp only [va_nd, Bool.and_eq_true, decide_eq_true_eq] at hn
    rcases lput_get is xs (ws.set i x) hn.2 j q h with ⟨k, h1, h2⟩ | ⟨h1, h2⟩
    · exact Or.inl ⟨k + 1, h1, h2⟩
    · rw [List.getElem?_set] at h2
      by_cases hj : i = j
      · subst hj
        rw [if_pos rfl] at h2
        by_cases hl : i < ws.length
        · rw [if_pos hl] at h2
          exact Or.inl ⟨0, rfl, h2⟩
        · rw [if_neg hl] at h2; cases h2
      · rw [if_neg hj] at h2
        refine Or.inr ⟨?_, h2⟩
        rcases h1 with h1 | h1
        · left; intro hm; rcases List.mem_cons.mp hm with rfl | hm
          · exact hj rfl
          · exact h1 hm
        · right; simp only [List.length_cons]; omega
theorem sel_get {bs wbs : List va_W} {isB : List Nat} (hC : isB.map (fun i => bs[i]?) = wbs.map some) (k : Nat) (b : va_W) (hb : wbs[k]? = some b) : ∃ i, isB[k]? = some i ∧ bs[i]? = some b := by
  have h1 : (isB.map (fun i => bs[i]?))[k]? = some (some b) := by rw [hC, List.getElem?_map, hb]; rfl
  rw [List.getElem?_map] at h1
  cases hi : isB[k]? with
  | none => rw [hi] at h1; cases h1
  | some i => rw [hi] at h1; exact ⟨i, rfl, Option.some.inj h1⟩
theorem sel_P {D : va_G} {cl : List vw_C} {bs wbs : List va_W} {isB : List Nat} {H : Heap} (hC : isB.map (fun i => bs[i]?) = wbs.map some) (hP : va_P D cl (wj bs) H) : va_P D cl (wj wbs) H := by
  rw [wj_P] at hP ⊢
  intro k b hb
  obtain ⟨i, -, h2⟩ := sel_get hC k b hb
  exact hP i b h2
theorem sel_D {A : Nat → Prop} {bs wbs : List va_W} {isB : List Nat} (hC : isB.map (fun i => bs[i]?) = wbs.map some) (hn : va_nd isB = true) (hD : va_D A (wj bs)) : va_D A (wj wbs) := by
  rw [wj_D] at hD ⊢
  refine ⟨fun k b hb => ?_, fun i j bi bj p q hi hj hp hq hpq => ?_⟩
  · obtain ⟨i, -, h2⟩ := sel_get hC k b hb
    exact hD.1 i b h2
  · obtain ⟨i', h1, h2⟩ := sel_get hC i bi hi
    obtain ⟨j', h3, h4⟩ := sel_get hC j bj hj
    have e := hD.2 i' j' bi bj p q h2 h4 hp hq hpq
    subst e
    exact va_nd_inj isB hn i j i' h1 h3
theorem sel_F {A0 : Nat → Prop} {bs wbs : List va_W} {isB : List Nat} {sz : Nat} (hC : isB.map (fun i => bs[i]?) = wbs.map some) (hD : va_D A0 (wj bs)) (hA : ∀ q, sz ≤ q → A0 q) : ∀ q, va_A (wj wbs) sz q → A0 q := by
  intro q h
  rcases h with ⟨k, e, h⟩ | h
  · obtain ⟨k1, b, h1, h2⟩ := (wj_mem wbs _).mp (List.mem_of_getElem? h)
    obtain ⟨i, -, h3⟩ := sel_get hC k1 b h1
    obtain ⟨j, hj⟩ := List.getElem?_of_mem ((wj_mem bs (q, e)).mpr ⟨i, b, h3, h2⟩)
    exact hD.2 j (q, e) hj
  · exact hA q h
/-- what a list of blocks takes for addresses -/
def wa (bs : List va_W) : List (List Nat) := bs.map (fun b => b.map (·.1))
theorem wa_get {w1 w2 : List va_W} (h : wa w1 = wa w2) (k : Nat) (b : va_W) (hb : w1[k]? = some b) : ∃ b', w2[k]? = some b' ∧ b'.map (·.1) = b.map (·.1) := by
  have h1 : (wa w2)[k]? = some (b.map (·.1)) := by rw [← h]; unfold wa; rw [List.getElem?_map, hb]; rfl
  unfold wa at h1
  rw [List.getElem?_map] at h1
  cases hk : w2[k]? with
  | none => rw [hk] at h1; cases h1
  | some b' => rw [hk] at h1; exact ⟨b', rfl, Option.some.inj h1⟩
theorem wj_fst : ∀ (a b : List va_W), wa a = wa b → (wj a).map (·.1) = (wj b).map (·.1)
  | [], [], _ => rfl
  | [], y :: b, h => by cases h
  | x :: a, [], h => by cases h
  | x :: a, y :: b, h => by
    have h1 : x.map (·.1) = y.map (·.1) := (List.cons.inj h).1
    have h2 : wa a = wa b := (List.cons.inj h).2
    show (x ++ wj a).map (·.1) = (y ++ wj b).map (·.1)
    rw [List.map_append, List.map_append, h1, wj_fst a b h2]
theorem lput_wa : ∀ (is : List Nat) (xs ws : List va_W), (∀ (k i : Nat) (x : va_W), is[k]? = some i → xs[k]? = some x → (ws[i]?).map (fun b => b.map (·.1)) = some (x.map (·.1))) → wa (lput ws is xs) = wa ws
  | [], xs, ws, _ => by cases xs <;> rfl
  | i :: is, [], ws, _ => rfl
  | i :: is, x :: xs, ws, h => by
    have h0 := h 0 i x rfl rfl
    have e : wa (ws.set i x) = wa ws := by
      unfold wa
      apply List.ext_getElem?
      intro j
      rw [List.getElem?_map, List.getElem?_map, List.getElem?_set]
      by_cases hj : i = j
      · subst hj
        by_cases hl : i < ws.length
        · rw [if_pos rfl, if_pos hl, h0]; rfl
        · rw [if_pos rfl, if_neg hl, List.getElem?_eq_none (by omega)]
      · rw [if_neg hj]
    show wa (lput (ws.set i x) is xs) = _
    rw [lput_wa is xs (ws.set i x) ?_, e]
    intro k i' x' h1 h2
    have h3 := h (k + 1) i' x' h1 h2
    rw [← List.getElem?_map] at h3 ⊢
    unfold wa at e
    rw [e]
    exact h3
theorem lput_join {A0 : Nat → Prop} {D : va_G} {cl : List vw_C} {bs wbs w1 : List va_W} {H H1 : Heap} (hP : va_P D cl (wj bs) H) (hD : va_D A0 (wj bs)) (isB : List Nat) (hC : isB.map (fun i => bs[i]?) = wbs.map some) (hn : va_nd isB = true) (hf : wa w1 = wa wbs)
    (hk : ∀ q : Nat, q < H.size → ¬ va_A (wj wbs) H.size q → H1[q]? = H[q]?) (hP1 : va_P D cl (wj w1) H1) : va_P D cl (wj (lput bs isB w1)) H1 ∧ va_D A0 (wj (lput bs isB w1)) := by
  have hlen : w1.length = isB.length := by
    have h1 := congrArg List.length hf
    have h2 := congrArg List.length hC
    simp only [wa, List.length_map] at h1 h2
    omega
  constructor
  · rw [wj_P]
    intro j b hj
    rcases lput_get isB w1 bs hn j b hj with ⟨k, h1, h2⟩ | ⟨h1, h2⟩
    · exact (wj_P.mp hP1) k b h2
    · have hj' : j ∉ isB := by
        rcases h1 with h1 | h1
        · exact h1
        · omega
      have hb := (wj_P.mp hP) j b h2
      refine hb.kept (fun i q hq => hk q.1 (hb i q hq).lt ?_)
      intro hA
      rcases hA with ⟨k, e, hA⟩ | hA
      · obtain ⟨k1, b1, h3, h4⟩ := (wj_mem wbs _).mp (List.mem_of_getElem? hA)
        obtain ⟨i', h5, h6⟩ := sel_get hC k1 b1 h3
        have e2 := (wj_D.mp hD).2 j i' b b1 q (q.1, e) h2 h6 (List.mem_of_getElem? hq) h4 rfl
        subst e2
        exact hj' (List.mem_of_getElem? h5)
      · have := (hb i q hq).lt
        omega
  · refine va_D_fst (w1 := wj bs) (wj_fst _ _ ?_) hD
    rw [lput_wa isB w1 bs ?_]
    intro k i x h1 h2
    obtain ⟨b', h3, h4⟩ := wa_get hf k x h2
    obtain ⟨i', h5, h6⟩ := sel_get hC k b' h3
    rw [h1] at h5; cases h5
    rw [h6]; exact congrArg some h4
theorem blk_sub {A : Nat → Prop} {bs : List va_W} {k : Nat} {b : va_W} (hb : bs[k]? = some b) (hD : va_D A (wj bs)) : va_D A b := (wj_D.mp hD).1 k b hb
theorem blk_P {D : va_G} {cl : List vw_C} {bs : List va_W} {k : Nat} {b : va_W} {H : Heap} (hb : bs[k]? = some b) (hP : va_P D cl (wj bs) H) : va_P D cl b H := wj_P.mp hP k b hb
/-- a cell of a block is written -/
theorem blk_set {A : Nat → Prop} {D : va_G} {cl : List vw_C} {bs : List va_W} {k : Nat} {b b' : va_W} {H H1 : Heap} {a : Nat} (hb : bs[k]? = some b) (hP : va_P D cl (wj bs) H) (hD : va_D A (wj bs)) (hf : b'.map (·.1) = b.map (·.1)) (ha : ∃ e, (a, e) ∈ b) (oq : ∀ q : Nat, q ≠ a → H1[q]? = H[q]?) (hP1 : va_P D cl b' H1) : va_P D cl (wj (bs.set k b')) H1 ∧ va_D A (wj (bs.set k b')) := by
  obtain ⟨e, ha⟩ := ha
  have hl := (List.getElem?_eq_some_iff.mp hb).1
  constructor
  · rw [wj_P]
    intro j c hj
    rw [List.getElem?_set] at hj
    by_cases hkj : k = j
    · rw [if_pos hkj, if_pos (hkj ▸ hl)] at hj; cases hj; exact hP1
    · rw [if_neg hkj] at hj
      refine ((wj_P.mp hP) j c hj).kept (fun i q hq => oq q.1 (fun h => ?_))
      exact hkj ((wj_D.mp hD).2 k j b c (a, e) q hb hj ha (List.mem_of_getElem? hq) h.symm)
  · refine va_D_fst (w1 := wj bs) (wj_fst _ _ ?_) hD
    unfold wa
    apply List.ext_getElem?
    intro j
    rw [List.getElem?_map, List.getElem?_map, List.getElem?_set]
    by_cases hkj : k = j
    · subst hkj
      rw [if_pos rfl, if_pos hl, hb]
      exact congrArg some hf.symm
    · rw [if_neg hkj]
theorem set_fst {b : va_W} {j : Nat} {a : Nat} {e0 e : va_E} (h : b[j]? = some (a, e0)) : (b.set j (a, e)).map (·.1) = b.map (·.1) := by
  apply List.ext_getElem?
  intro i
  rw [List.getElem?_map, List.getElem?_map, List.getElem?_set]
  by_cases hi : j = i
  · subst hi
    rw [if_pos rfl, if_pos (List.getElem?_eq_some_iff.mp h).1, h]; rfl
  · rw [if_neg hi]
theorem wj_at : ∀ {bs : List va_W} {k q : Nat} {b : va_W} {x : Nat × va_E}, bs[k]? = some b → b[q]? = some x → ∃ i : Nat, (wj bs)[i]? = some x ∧ ∀ y : Nat × va_E, (wj bs).set i y = wj (bs.set k (b.set q y))
  | [], k, q, b, x, hb, _ => by simp at hb
  | c :: bs, 0, q, b, x, hb, hx => by
    cases hb
    have hl := (List.getElem?_eq_some_iff.mp hx).1
    refine ⟨q, ?_, fun y => ?_⟩
    · show (c ++ wj bs)[q]? = _
      rw [List.getElem?_append_left hl]; exact hx
    · show (c ++ wj bs).set q y = c.set q y ++ wj bs
      rw [List.set_append_left _ _ hl]
  | c :: bs, k + 1, q, b, x, hb, hx => by
    obtain ⟨i, h1, h2⟩ := wj_at (bs := bs) (k := k) hb hx
    refine ⟨c.length + i, ?_, fun y => ?_⟩
    · show (c ++ wj bs)[c.length + i]? = _
      rw [List.getElem?_append_right (by omega), show c.length + i - c.length = i by omega]; exact h1
    · show (c ++ wj bs).set (c.length + i) y = c ++ wj (bs.set k (b.set q y))
      rw [List.set_append_right _ _ (by omega), show c.length + i - c.length = i by omega, h2]
section KB
variable {Γ : KG} {l : Launch} {rm : Room} {D : va_G} {ty : List (ClassId × FieldType)} {cc : ByteArray} {nL : Nat} {own : String} {w0 : Cond}
variable {n z pc tgt : Nat} {bs bs' : List va_W} {lo lo' : List (Nat × Value)} {st : List Value}
theorem kb_get (X : KX Γ l rm D ty cc nL own w0) {C : String} {F : u_T} {N ci idx a : Nat} {fs : List Value} {v : Value} (hin : ∀ w ∈ u_ws C F N, w ∈ GW) (k0 q0 : Nat) {blk : va_W} (hb : bs[k0]? = some blk) (he : blk[q0]? = some (a, .inr (ci, fs))) (hc : vwCl[ci]? = some (C, F, N)) (k : Nat) (hk : k < N) (hCk : (F k).1 = C) (hlink : Cond.fieldLink own idx C (F k).2.1 (F k).2.2.1 ∈ GW) (hv : fs[k]? = some v) (d : decode cc pc = .ok (.getfield idx, 3))
    (kk : KW Γ n z (wj bs) lo (pc + 3) (v :: st)) : KW Γ n z (wj bs) lo pc (.ref a :: st) := by
  obtain ⟨p, l', e, R, s, m, args, below, meth, c, Q, D', ty', AD, A, H0, nL'⟩ := Γ
  obtain ⟨rfl, rfl, rfl, rfl, rfl, ⟨hx, hbc, hml, hown, hts⟩, hSK⟩ := X
  intro H locs ls hP hD hS hl
  exact va_get hx hbc (T := F) hts (fun w h => List.mem_cons_of_mem _ (hin w h)) hown hSK.1 (blk_P hb hP) q0 he hc k hk (gw_all hts hlink) (fun _ h => hCk ▸ h) hv d (kk H locs ls hP hD hS hl)
theorem kb_getN (X : KX Γ l rm D ty cc nL own w0) {C : String} {F : u_T} {N ci idx a : Nat} {fs : List Value} {host : String} {v : Value} (hin : ∀ w ∈ u_ws C F N, w ∈ GW) (k0 q0 : Nat) {blk : va_W} (hb : bs[k0]? = some blk) (he : blk[q0]? = some (a, .inr (ci, fs))) (hc : vwCl[ci]? = some (C, F, N)) (k : Nat) (hk : k < N) (hCk : (F k).1 = C) (hlink : Cond.fieldLinkNest own idx C (F k).2.1 (F k).2.2.1 host ∈ NWL) (hv : fs[k]? = some v) (d : decode cc pc = .ok (.getfield idx, 3))
    (kk : KW Γ n z (wj bs) lo (pc + 3) (v :: st)) : KW Γ n z (wj bs) lo pc (.ref a :: st) := by
  obtain ⟨p, l', e, R, s, m, args, below, meth, c, Q, D', ty', AD, A, H0, nL'⟩ := Γ
  obtain ⟨rfl, rfl, rfl, rfl, rfl, ⟨hx, hbc, hml, hown, hts⟩, hSK⟩ := X
  intro H locs ls hP hD hS hl
  exact va_getN hx hbc (T := F) hts (fun w h => List.mem_cons_of_mem _ (hin w h)) hown hSK.1 (blk_P hb hP) q0 he hc k hk (va_Nw.use rfl (hSK.2.1 _ hlink)) (fun _ h => hCk ▸ h) hv d (kk H locs ls hP hD hS hl)
theorem kb_put (X : KX Γ l rm D ty cc nL own w0) {C : String} {F : u_T} {N ci idx a : Nat} {fs : List Value} {t : FieldType} {v : Value} (E : KE Γ) (hin : ∀ w ∈ u_ws C F N, w ∈ GW) (ty0 : Nat → FieldType) (hty : ∀ k, k < N → parseFieldDescriptor (F k).2.2.1 = some (ty0 k)) (hnm : ∀ a, a < N → ∀ b, b < N → a ≠ b → (F a).2.1 ≠ (F b).2.1) (k0 q0 : Nat) {blk : va_W} (hb : bs[k0]? = some blk) (he : blk[q0]? = some (a, .inr (ci, fs))) (hc : vwCl[ci]? = some (C, F, N)) (k : Nat) (hk : k < N) (hCk : (F k).1 = C) (hlink : Cond.fieldLink own idx C (F k).2.1 (F k).2.2.1 ∈ GW) (hfin : (F k).2.2.2 = false) (hd : parseFieldDescriptor (F k).2.2.1 = some t) (hn : narrow t v = v) (hfit : fits t v = true) (hlen : k < fs.length) (hws : bs.set k0 (blk.set q0 (a, .inr (ci, fs.set k v))) = bs') (d : decode cc pc = .ok (.putfield idx, 3))
    (kk : KW Γ n z (wj bs') lo (pc + 3) st) : KW Γ n z (wj bs) lo pc (v :: .ref a :: st) := by
  obtain ⟨p, l', e, R, s, m, args, below, meth, c, Q, D', ty', AD, A, H0, nL'⟩ := Γ
  obtain ⟨rfl, rfl, rfl, rfl, rfl, ⟨hx, hbc, hml, hown, hts⟩, hSK⟩ := X
  intro H locs ls hP hD hS hl
  obtain ⟨rfl, hA⟩ := E
  subst hws
  obtain ⟨i, hi, hset⟩ := wj_at hb he
  exact va_put hx hbc (T := F) hts (fun w h => List.mem_cons_of_mem _ (hin w h)) ty0 hty hnm hown hSK.1 hP hD hS i hi hc k hk (gw_all hts hlink) (fun _ h => hCk ▸ h) hfin hd hn hfit hlen d (fun H1 locs1 hP1 hD1 hS1 => kk H1 locs1 ls (by rw [← hset]; exact hP1) (by rw [← hset]; exact hD1) hS1 hl)
theorem kb_putN (X : KX Γ l rm D ty cc nL own w0) {C : String} {F : u_T} {N ci idx a : Nat} {fs : List Value} {host : String} {t : FieldType} {v : Value} (E : KE Γ) (hin : ∀ w ∈ u_ws C F N, w ∈ GW) (ty0 : Nat → FieldType) (hty : ∀ k, k < N → parseFieldDescriptor (F k).2.2.1 = some (ty0 k)) (hnm : ∀ a, a < N → ∀ b, b < N → a ≠ b → (F a).2.1 ≠ (F b).2.1) (k0 q0 : Nat) {blk : va_W} (hb : bs[k0]? = some blk) (he : blk[q0]? = some (a, .inr (ci, fs))) (hc : vwCl[ci]? = some (C, F, N)) (k : Nat) (hk : k < N) (hCk : (F k).1 = C) (hlink : Cond.fieldLinkNest own idx C (F k).2.1 (F k).2.2.1 host ∈ NWL) (hfin : (F k).2.2.2 = false) (hd : parseFieldDescriptor (F k).2.2.1 = some t) (hn : narrow t v = v) (hfit : fits t v = true) (hlen : k < fs.length) (hws : bs.set k0 (blk.set q0 (a, .inr (ci, fs.set k v))) = bs') (d : decode cc pc = .ok (.putfield idx, 3))
    (kk : KW Γ n z (wj bs') lo (pc + 3) st) : KW Γ n z (wj bs) lo pc (v :: .ref a :: st) := by
  obtain ⟨p, l', e, R, s, m, args, below, meth, c, Q, D', ty', AD, A, H0, nL'⟩ := Γ
  obtain ⟨rfl, rfl, rfl, rfl, rfl, ⟨hx, hbc, hml, hown, hts⟩, hSK⟩ := X
  intro H locs ls hP hD hS hl
  obtain ⟨rfl, hA⟩ := E
  subst hws
  obtain ⟨i, hi, hset⟩ := wj_at hb he
  exact va_putN hx hbc (T := F) hts (fun w h => List.mem_cons_of_mem _ (hin w h)) ty0 hty hnm hown hSK.1 hP hD hS i hi hc k hk (va_Nw.use rfl (hSK.2.1 _ hlink)) (fun _ h => hCk ▸ h) hfin hd hn hfit hlen d (fun H1 locs1 hP1 hD1 hS1 => kk H1 locs1 ls (by rw [← hset]; exact hP1) (by rw [← hset]; exact hD1) hS1 hl)
theorem kb_aald (X : KX Γ l rm D ty cc nL own w0) {a : Nat} {cA : ClassId} {C : String} {N : Nat} {f : Nat → Option Nat} {i : Int32} {v : Value} {blk : va_W} (k0 q0 t0 : Nat) (hb : bs[k0]? = some blk) (ha : blk[q0]? = some (a, .inl (cA, N, .inr (.inr (.inr (.inr f)))))) (ht : ty[t0]? = some (cA, .object C)) (hin : vp_in i N) (hv : va_rf (f i.toNatClampNeg) = v) (d : decode cc pc = .ok (.aaload, 1))
    (kk : KW Γ n z (wj bs) lo (pc + 1) (v :: st)) : KW Γ n z (wj bs) lo pc (.int i :: .ref a :: st) := by
  obtain ⟨p, l', e, R, s, m, args, below, meth, c, Q, D', ty', AD, A, H0, nL'⟩ := Γ
  obtain ⟨rfl, rfl, rfl, rfl, rfl, ⟨hx, hbc, hml, hown, hts⟩, hSK⟩ := X
  intro H locs ls hP hD hS hl
  subst hv
  exact va_aldq hx hbc hSK.1 (blk_P hb hP) q0 t0 ha ht hin d (kk H locs ls hP hD hS hl)
theorem kb_alen (X : KX Γ l rm D ty cc nL own w0) {a : Nat} {cA : ClassId} {x : vp_A} {v : Int32} {t : FieldType} {blk : va_W} (k0 q0 t0 : Nat) (hb : bs[k0]? = some blk) (ha : blk[q0]? = some (a, .inl (cA, x))) (ht : ty[t0]? = some (cA, t)) (hv : Int32.ofNat x.1 = v) (d : decode cc pc = .ok (.arraylength, 1))
    (kk : KW Γ n z (wj bs) lo (pc + 1) (.int v :: st)) : KW Γ n z (wj bs) lo pc (.ref a :: st) := by
  obtain ⟨p, l', e, R, s, m, args, below, meth, c, Q, D', ty', AD, A, H0, nL'⟩ := Γ
  obtain ⟨rfl, rfl, rfl, rfl, rfl, ⟨hx, hbc, hml, hown, hts⟩, hSK⟩ := X
  intro H locs ls hP hD hS hl
  exact va_alen hx hbc hSK.1 (blk_P hb hP) q0 t0 ha ht hv d (kk H locs ls hP hD hS hl)
theorem kb_cp (X : KX Γ l rm D ty cc nL own w0) {y : MethodName} {cy : ByteArray} {my idx b ci k : Nat} {ry : Option FieldType} {rc : Room} {C : String} {F : u_T} {N : Nat} {fs : List Value} {As stk : List Value} {wc blk : va_W} {r : Value} (hM : MPi l y cy my ry rc D ty (.ref b :: As) wc r) (vl : VL own idx C y cy my ry) (hd : YV y C k) (hR : rc.frames + 1 ≤ rm.frames ∧ 8 + (my + 11) + rc.locals ≤ rm.locals) (hR0 : rc.cells = 0 ∧ rc.slots = 0) (hnz : n ≤ rm.cells ∧ z ≤ rm.slots) (k0 q0 : Nat) (hb : bs[k0]? = some blk) (he : blk[q0]? = some (b, .inr (ci, fs))) (hc : vwCl[ci]? = some (C, F, N)) (isC : List Nat) (hn : va_nd isC = true) (hC : isC.map (fun i => blk[i]?) = wc.map some) (hst : stk = As.reverse ++ .ref b :: st) (hAs : As.length = k) (hcat : (st.map fun v => v.category).sum ≤ 8) (d : decode cc pc = .ok (.invokevirtual idx, 3))
    (kk : KW Γ n z (wj bs) lo (pc + 3) (r :: st)) : KW Γ n z (wj bs) lo pc stk := by
  obtain ⟨p, l', e, R, s, m, args, below, meth, c, Q, D', ty', AD, A, H0, nL'⟩ := Γ
  obtain ⟨rfl, rfl, rfl, rfl, rfl, ⟨hx, hbc, hml, hown, hts⟩, hSK⟩ := X
  intro H locs ls hP hD hS hl
  subst hst
  have hC2 : isC.filterMap (fun i => blk[i]?) = wc := by
    have h := congrArg (fun l => l.filterMap id) hC
    simpa [List.filterMap_map, Function.comp_def] using h
  have hPc := (blk_P hb hP).sub isC hC2
  have hDc : va_D (fun _ => True) wc := ((blk_sub hb hD).sub isC hn hC).weaken (fun _ _ _ _ => trivial)
  exact kw_backP (va_runV (As := As) (rest := st) ⟨hx, hbc, hml, hown, hts⟩ (hM) (cwV k hts (gw_V vl) rfl hR0.1 hR0.2 hd hR) ⟨fun a U g mk q => by obtain ⟨q0, q1, q2, q3⟩ := q; exact ⟨q0, q1, q2.calling g mk a, q3⟩, va_recv hSK.1 (blk_P hb hP) hc he, fun U hU hW => ⟨rfl, by rw [hU]; exact hPc, hSK.moved hW, hDc⟩⟩ rfl hAs hl.1 rfl (lv_room hcat) d ⟨hnz.1, hnz.2⟩) hP hS (fun H1 locs1 hP1 hS1 => kk H1 locs1 ls hP1 hD hS1 hl)
theorem kb_ap (X : KX Γ l rm D ty cc nL own w0) {y : MethodName} {cy : ByteArray} {my idx b ci k : Nat} {ry : Option FieldType} {rc : Room} {C : String} {F : u_T} {N : Nat} {fs : List Value} {As stk : List Value} {blk : va_W} {r : Value} (hM : MPi l y cy my ry rc D ty (.ref b :: As) blk r) (vl : VL own idx C y cy my ry) (hd : YV y C k) (hR : rc.frames + 1 ≤ rm.frames ∧ 8 + (my + 11) + rc.locals ≤ rm.locals) (hR0 : rc.cells = 0 ∧ rc.slots = 0) (hnz : n ≤ rm.cells ∧ z ≤ rm.slots) (k0 q0 : Nat) (hb : bs[k0]? = some blk) (he : blk[q0]? = some (b, .inr (ci, fs))) (hc : vwCl[ci]? = some (C, F, N)) (hst : stk = As.reverse ++ .ref b :: st) (hAs : As.length = k) (hcat : (st.map fun v => v.category).sum ≤ 8) (d : decode cc pc = .ok (.invokevirtual idx, 3))
    (kk : KW Γ n z (wj bs) lo (pc + 3) (r :: st)) : KW Γ n z (wj bs) lo pc stk := by
  obtain ⟨p, l', e, R, s, m, args, below, meth, c, Q, D', ty', AD, A, H0, nL'⟩ := Γ
  obtain ⟨rfl, rfl, rfl, rfl, rfl, ⟨hx, hbc, hml, hown, hts⟩, hSK⟩ := X
  intro H locs ls hP hD hS hl
  subst hst
  have hPc := blk_P hb hP
  have hDc : va_D (fun _ => True) blk := (blk_sub hb hD).weaken (fun _ _ _ _ => trivial)
  exact kw_backP (va_runV (As := As) (rest := st) ⟨hx, hbc, hml, hown, hts⟩ (hM) (cwV k hts (gw_V vl) rfl hR0.1 hR0.2 hd hR) ⟨fun a U g mk q => by obtain ⟨q0, q1, q2, q3⟩ := q; exact ⟨q0, q1, q2.calling g mk a, q3⟩, va_recv hSK.1 (blk_P hb hP) hc he, fun U hU hW => ⟨rfl, by rw [hU]; exact hPc, hSK.moved hW, hDc⟩⟩ rfl hAs hl.1 rfl (lv_room hcat) d ⟨hnz.1, hnz.2⟩) hP hS (fun H1 locs1 hP1 hS1 => kk H1 locs1 ls hP1 hD hS1 hl)
theorem kb_mp (X : KX Γ l rm D ty cc nL own w0) {y : MethodName} {cy : ByteArray} {my idx b ci k : Nat} {ry : Option FieldType} {rc : Room} {C : String} {F : u_T} {N : Nat} {fs : List Value} {As stk : List Value} {blk : va_W} {wbs : List va_W} {r : Value} (hM : MPi l y cy my ry rc D ty (.ref b :: As) (wj wbs) r) (vl : VL own idx C y cy my ry) (hd : YV y C k) (hR : rc.frames + 1 ≤ rm.frames ∧ 8 + (my + 11) + rc.locals ≤ rm.locals) (hR0 : rc.cells = 0 ∧ rc.slots = 0) (hnz : n ≤ rm.cells ∧ z ≤ rm.slots) (k0 q0 : Nat) (hb : bs[k0]? = some blk) (he : blk[q0]? = some (b, .inr (ci, fs))) (hc : vwCl[ci]? = some (C, F, N)) (isB : List Nat) (hn : va_nd isB = true) (hC : isB.map (fun i => bs[i]?) = wbs.map some) (hst : stk = As.reverse ++ .ref b :: st) (hAs : As.length = k) (hcat : (st.map fun v => v.category).sum ≤ 8) (d : decode cc pc = .ok (.invokevirtual idx, 3))
    (kk : KW Γ n z (wj bs) lo (pc + 3) (r :: st)) : KW Γ n z (wj bs) lo pc stk := by
  obtain ⟨p, l', e, R, s, m, args, below, meth, c, Q, D', ty', AD, A, H0, nL'⟩ := Γ
  obtain ⟨rfl, rfl, rfl, rfl, rfl, ⟨hx, hbc, hml, hown, hts⟩, hSK⟩ := X
  intro H locs ls hP hD hS hl
  subst hst
  have hPc := sel_P hC hP
  have hDc : va_D (fun _ => True) (wj wbs) := (sel_D hC hn hD).weaken (fun _ _ _ _ => trivial)
  exact kw_backP (va_runV (As := As) (rest := st) ⟨hx, hbc, hml, hown, hts⟩ (hM) (cwV k hts (gw_V vl) rfl hR0.1 hR0.2 hd hR) ⟨fun a U g mk q => by obtain ⟨q0, q1, q2, q3⟩ := q; exact ⟨q0, q1, q2.calling g mk a, q3⟩, va_recv hSK.1 (blk_P hb hP) hc he, fun U hU hW => ⟨rfl, by rw [hU]; exact hPc, hSK.moved hW, hDc⟩⟩ rfl hAs hl.1 rfl (lv_room hcat) d ⟨hnz.1, hnz.2⟩) hP hS (fun H1 locs1 hP1 hS1 => kk H1 locs1 ls hP1 hD hS1 hl)
theorem kb_mei (X : KX Γ l rm D ty cc nL own w0) {y : MethodName} {cy : ByteArray} {my idx b ci k : Nat} {ry : Option FieldType} {rc : Room} {C : String} {F : u_T} {N : Nat} {fs : List Value} {As stk : List Value} {r : Value} {blk : va_W} {wbs : List va_W} {w1 : List va_W} (E : KE Γ) (hM : MEq l y cy my ry rc D ty (.ref b :: As) (wj wbs) (wj w1) (some r)) (vl : VL own idx C y cy my ry) (hd : YV y C k) (hR : rc.frames + 1 ≤ rm.frames ∧ 8 + (my + 11) + rc.locals ≤ rm.locals) (hR0 : rc.cells = 0 ∧ rc.slots = 0) (hnz : n ≤ rm.cells ∧ z ≤ rm.slots) (k0 q0 : Nat) (hb : bs[k0]? = some blk) (he : blk[q0]? = some (b, .inr (ci, fs))) (hc : vwCl[ci]? = some (C, F, N)) (isB : List Nat) (hn : va_nd isB = true) (hC : isB.map (fun i => bs[i]?) = wbs.map some) (hst : stk = As.reverse ++ .ref b :: st) (hAs : As.length = k) (hcat : (st.map fun v => v.category).sum ≤ 8) (d : decode cc pc = .ok (.invokevirtual idx, 3)) (hf : wa w1 = wa wbs) (hws : lput bs isB w1 = bs')
    (kk : KW Γ n z (wj bs') lo (pc + 3) (r :: st)) : KW Γ n z (wj bs) lo pc stk := by
  obtain ⟨p, l', e, R, s, m, args, below, meth, c, Q, D', ty', AD, A, H0, nL'⟩ := Γ
  obtain ⟨rfl, rfl, rfl, rfl, rfl, ⟨hx, hbc, hml, hown, hts⟩, hSK⟩ := X
  intro H locs ls hP hD hS hl
  obtain ⟨rfl, hA⟩ := E
  subst hst
  have hPc := sel_P hC hP
  have hDc : va_D (fun _ => True) (wj wbs) := (sel_D hC hn hD).weaken (fun _ _ _ _ => trivial)
  have hF := sel_F (sz := H.size) hC hD (fun q h => hA q (Nat.le_trans hS.1 h))
  exact kw_backE (mc := 0) (ms := 0) (va_runV (As := As) (rest := st) ⟨hx, hbc, hml, hown, hts⟩ (hM H.size) (cwV k hts (gw_V vl) rfl hR0.1 hR0.2 hd hR) ⟨fun a U g mk q => by obtain ⟨q0, q4, q1, q2, q3⟩ := q; exact ⟨q0, q4, q1, q2.calling g mk a, q3⟩, va_recv hSK.1 (blk_P hb hP) hc he, fun U hU hW => ⟨rfl, by rw [hU], by rw [hU]; exact hPc, hSK.moved hW, hDc⟩⟩ rfl hAs hl.1 rfl (lv_room hcat) d ⟨hnz.1, hnz.2⟩) hS hF (fun t H1 locs1 ht hB hz hk hS1 => by
    obtain ⟨hP1, hD1⟩ := hB
    rw [ht] at hP1
    obtain ⟨hP2, hD2⟩ := lput_join hP hD isB hC hn hf hk hP1
    rw [hws] at hP2 hD2
    exact kk H1 locs1 ls hP2 hD2 hS1 hl)
theorem kb_aei (X : KX Γ l rm D ty cc nL own w0) {y : MethodName} {cy : ByteArray} {my idx b ci k : Nat} {ry : Option FieldType} {rc : Room} {C : String} {F : u_T} {N : Nat} {fs : List Value} {As stk : List Value} {r : Value} {blk : va_W} {w1 : va_W} (E : KE Γ) (hM : MEq l y cy my ry rc D ty (.ref b :: As) blk w1 (some r)) (vl : VL own idx C y cy my ry) (hd : YV y C k) (hR : rc.frames + 1 ≤ rm.frames ∧ 8 + (my + 11) + rc.locals ≤ rm.locals) (hR0 : rc.cells = 0 ∧ rc.slots = 0) (hnz : n ≤ rm.cells ∧ z ≤ rm.slots) (k0 q0 : Nat) (hb : bs[k0]? = some blk) (he : blk[q0]? = some (b, .inr (ci, fs))) (hc : vwCl[ci]? = some (C, F, N)) (hst : stk = As.reverse ++ .ref b :: st) (hAs : As.length = k) (hcat : (st.map fun v => v.category).sum ≤ 8) (d : decode cc pc = .ok (.invokevirtual idx, 3)) (as : List Nat) (hf1 : w1.map (·.1) = as) (hf2 : blk.map (·.1) = as) (hws : bs.set k0 w1 = bs')
    (kk : KW Γ n z (wj bs') lo (pc + 3) (r :: st)) : KW Γ n z (wj bs) lo pc stk := by
  obtain ⟨p, l', e, R, s, m, args, below, meth, c, Q, D', ty', AD, A, H0, nL'⟩ := Γ
  obtain ⟨rfl, rfl, rfl, rfl, rfl, ⟨hx, hbc, hml, hown, hts⟩, hSK⟩ := X
  intro H locs ls hP hD hS hl
  obtain ⟨rfl, hA⟩ := E
  subst hst
  have hPc := blk_P hb hP
  have hDc : va_D (fun _ => True) blk := (blk_sub hb hD).weaken (fun _ _ _ _ => trivial)
  have hC : [k0].map (fun i => bs[i]?) = [blk].map some := by simp [hb]
  have hF := sel_F (sz := H.size) hC hD (fun q h => hA q (Nat.le_trans hS.1 h))
  rw [wj_one] at hF
  exact kw_backE (mc := 0) (ms := 0) (va_runV (As := As) (rest := st) ⟨hx, hbc, hml, hown, hts⟩ (hM H.size) (cwV k hts (gw_V vl) rfl hR0.1 hR0.2 hd hR) ⟨fun a U g mk q => by obtain ⟨q0, q4, q1, q2, q3⟩ := q; exact ⟨q0, q4, q1, q2.calling g mk a, q3⟩, va_recv hSK.1 (blk_P hb hP) hc he, fun U hU hW => ⟨rfl, by rw [hU], by rw [hU]; exact hPc, hSK.moved hW, hDc⟩⟩ rfl hAs hl.1 rfl (lv_room hcat) d ⟨hnz.1, hnz.2⟩) hS hF (fun t H1 locs1 ht hB hz hk hS1 => by
    obtain ⟨hP1, hD1⟩ := hB
    rw [ht] at hP1
    obtain ⟨hP2, hD2⟩ := lput_join hP hD [k0] hC rfl (w1 := [w1]) (by simp [wa, hf1, hf2]) (by rw [wj_one]; exact hk) (by rw [wj_one]; exact hP1)
    have e : lput bs [k0] [w1] = bs' := hws
    rw [e] at hP2 hD2
    exact kk H1 locs1 ls hP2 hD2 hS1 hl)
theorem kb_mev (X : KX Γ l rm D ty cc nL own w0) {y : MethodName} {cy : ByteArray} {my idx b ci k : Nat} {ry : Option FieldType} {rc : Room} {C : String} {F : u_T} {N : Nat} {fs : List Value} {As stk : List Value} {blk : va_W} {wbs : List va_W} {w1 : List va_W} (E : KE Γ) (hM : MEq l y cy my ry rc D ty (.ref b :: As) (wj wbs) (wj w1) none) (vl : VL own idx C y cy my ry) (hd : YV y C k) (hR : rc.frames + 1 ≤ rm.frames ∧ 8 + (my + 11) + rc.locals ≤ rm.locals) (hR0 : rc.cells = 0 ∧ rc.slots = 0) (hnz : n ≤ rm.cells ∧ z ≤ rm.slots) (k0 q0 : Nat) (hb : bs[k0]? = some blk) (he : blk[q0]? = some (b, .inr (ci, fs))) (hc : vwCl[ci]? = some (C, F, N)) (isB : List Nat) (hn : va_nd isB = true) (hC : isB.map (fun i => bs[i]?) = wbs.map some) (hst : stk = As.reverse ++ .ref b :: st) (hAs : As.length = k) (hcat : (st.map fun v => v.category).sum ≤ 8) (d : decode cc pc = .ok (.invokevirtual idx, 3)) (hf : wa w1 = wa wbs) (hws : lput bs isB w1 = bs')
    (kk : KW Γ n z (wj bs') lo (pc + 3) st) : KW Γ n z (wj bs) lo pc stk := by
  obtain ⟨p, l', e, R, s, m, args, below, meth, c, Q, D', ty', AD, A, H0, nL'⟩ := Γ
  obtain ⟨rfl, rfl, rfl, rfl, rfl, ⟨hx, hbc, hml, hown, hts⟩, hSK⟩ := X
  intro H locs ls hP hD hS hl
  obtain ⟨rfl, hA⟩ := E
  subst hst
  have hPc := sel_P hC hP
  have hDc : va_D (fun _ => True) (wj wbs) := (sel_D hC hn hD).weaken (fun _ _ _ _ => trivial)
  have hF := sel_F (sz := H.size) hC hD (fun q h => hA q (Nat.le_trans hS.1 h))
  exact kw_backE (mc := 0) (ms := 0) (va_runV (As := As) (rest := st) ⟨hx, hbc, hml, hown, hts⟩ (hM H.size) (cwV k hts (gw_V vl) rfl hR0.1 hR0.2 hd hR) ⟨fun a U g mk q => by obtain ⟨q0, q4, q1, q2, q3⟩ := q; exact ⟨q0, q4, q1, q2.calling g mk a, q3⟩, va_recv hSK.1 (blk_P hb hP) hc he, fun U hU hW => ⟨rfl, by rw [hU], by rw [hU]; exact hPc, hSK.moved hW, hDc⟩⟩ rfl hAs hl.1 rfl (lv_room hcat) d ⟨hnz.1, hnz.2⟩) hS hF (fun t H1 locs1 ht hB hz hk hS1 => by
    obtain ⟨hP1, hD1⟩ := hB
    rw [ht] at hP1
    obtain ⟨hP2, hD2⟩ := lput_join hP hD isB hC hn hf hk hP1
    rw [hws] at hP2 hD2
    exact kk H1 locs1 ls hP2 hD2 hS1 hl)
theorem kb_aev (X : KX Γ l rm D ty cc nL own w0) {y : MethodName} {cy : ByteArray} {my idx b ci k : Nat} {ry : Option FieldType} {rc : Room} {C : String} {F : u_T} {N : Nat} {fs : List Value} {As stk : List Value} {blk : va_W} {w1 : va_W} (E : KE Γ) (hM : MEq l y cy my ry rc D ty (.ref b :: As) blk w1 none) (vl : VL own idx C y cy my ry) (hd : YV y C k) (hR : rc.frames + 1 ≤ rm.frames ∧ 8 + (my + 11) + rc.locals ≤ rm.locals) (hR0 : rc.cells = 0 ∧ rc.slots = 0) (hnz : n ≤ rm.cells ∧ z ≤ rm.slots) (k0 q0 : Nat) (hb : bs[k0]? = some blk) (he : blk[q0]? = some (b, .inr (ci, fs))) (hc : vwCl[ci]? = some (C, F, N)) (hst : stk = As.reverse ++ .ref b :: st) (hAs : As.length = k) (hcat : (st.map fun v => v.category).sum ≤ 8) (d : decode cc pc = .ok (.invokevirtual idx, 3)) (as : List Nat) (hf1 : w1.map (·.1) = as) (hf2 : blk.map (·.1) = as) (hws : bs.set k0 w1 = bs')
    (kk : KW Γ n z (wj bs') lo (pc + 3) st) : KW Γ n z (wj bs) lo pc stk := by
  obtain ⟨p, l', e, R, s, m, args, below, meth, c, Q, D', ty', AD, A, H0, nL'⟩ := Γ
  obtain ⟨rfl, rfl, rfl, rfl, rfl, ⟨hx, hbc, hml, hown, hts⟩, hSK⟩ := X
  intro H locs ls hP hD hS hl
  obtain ⟨rfl, hA⟩ := E
  subst hst
  have hPc := blk_P hb hP
  have hDc : va_D (fun _ => True) blk := (blk_sub hb hD).weaken (fun _ _ _ _ => trivial)
  have hC : [k0].map (fun i => bs[i]?) = [blk].map some := by simp [hb]
  have hF := sel_F (sz := H.size) hC hD (fun q h => hA q (Nat.le_trans hS.1 h))
  rw [wj_one] at hF
  exact kw_backE (mc := 0) (ms := 0) (va_runV (As := As) (rest := st) ⟨hx, hbc, hml, hown, hts⟩ (hM H.size) (cwV k hts (gw_V vl) rfl hR0.1 hR0.2 hd hR) ⟨fun a U g mk q => by obtain ⟨q0, q4, q1, q2, q3⟩ := q; exact ⟨q0, q4, q1, q2.calling g mk a, q3⟩, va_recv hSK.1 (blk_P hb hP) hc he, fun U hU hW => ⟨rfl, by rw [hU], by rw [hU]; exact hPc, hSK.moved hW, hDc⟩⟩ rfl hAs hl.1 rfl (lv_room hcat) d ⟨hnz.1, hnz.2⟩) hS hF (fun t H1 locs1 ht hB hz hk hS1 => by
    obtain ⟨hP1, hD1⟩ := hB
    rw [ht] at hP1
    obtain ⟨hP2, hD2⟩ := lput_join hP hD [k0] hC rfl (w1 := [w1]) (by simp [wa, hf1, hf2]) (by rw [wj_one]; exact hk) (by rw [wj_one]; exact hP1)
    have e : lput bs [k0] [w1] = bs' := hws
    rw [e] at hP2 hD2
    exact kk H1 locs1 ls hP2 hD2 hS1 hl)
end KB
