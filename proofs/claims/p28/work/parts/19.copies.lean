theorem wput_cons : ∀ (L : List Nat) (xs ws : va_W) (c : Nat × va_E), wput (c :: ws) (L.map (fun i => i + 1)) xs = c :: wput ws L xs
  | [], xs, ws, c => by cases xs <;> rfl
  | i :: L, [], ws, c => rfl
  | i :: L, x :: xs, ws, c => by
    show wput (c :: ws.set i x) (L.map (fun i => i + 1)) xs = c :: wput (ws.set i x) L xs
    exact wput_cons L xs (ws.set i x) c
theorem wput_nil : ∀ (L : List Nat) (xs : va_W), wput [] L xs = []
  | [], xs => by cases xs <;> rfl
  | i :: L, [] => rfl
  | i :: L, x :: xs => by
    show wput ([] : va_W) L xs = []
    exact wput_nil L xs
/-- places in order, from j on -/
def wasc : Nat → List Nat → Bool
  | _, [] => true
  | j, i :: is => Nat.ble j i && wasc (i + 1) is
theorem wasc_ge : ∀ (is : List Nat) (j : Nat), wasc j is = true → ∀ i ∈ is, j ≤ i
  | [], j, _, i, h => by cases h
  | a :: is, j, h, i, hi => by
    simp only [wasc, Bool.and_eq_true, Nat.ble_eq] at h
    rcases List.mem_cons.mp hi with rfl | hi
    · exact h.1
    · have := wasc_ge is (a + 1) h.2 i hi; omega
theorem wasc_le : ∀ (is : List Nat) (j k : Nat), wasc j is = true → (∀ i ∈ is, k ≤ i) → wasc k is = true
  | [], j, k, _, _ => rfl
  | a :: is, j, k, h, hk => by
    simp only [wasc, Bool.and_eq_true, Nat.ble_eq] at h ⊢
    exact ⟨hk a List.mem_cons_self, h.2⟩
theorem wasc_nd : ∀ (is : List Nat) (j : Nat), wasc j is = true → va_nd is = true
  | [], j, _ => rfl
  | a :: is, j, h => by
    simp only [wasc, Bool.and_eq_true, Nat.ble_eq] at h
    simp only [va_nd, Bool.and_eq_true, decide_eq_true_eq]
    refine ⟨fun hm => ?_, wasc_nd is (a + 1) h.2⟩
    have := wasc_ge is (a + 1) h.2 a hm; omega
def wmrg : Nat → va_W → List Nat → va_W → va_W
  | j, c :: ws, i :: is, x :: xs => bif Nat.beq j i then x :: wmrg (j + 1) ws is xs else c :: wmrg (j + 1) ws (i :: is) (x :: xs)
  | _, ws, _, _ => ws
theorem wmrg_wput : ∀ (ws : va_W) (j : Nat) (is : List Nat) (xs : va_W), wasc j is = true → wmrg j ws is xs = wput ws (is.map (fun i => i - j)) xs
  | [], j, is, xs, _ => by
    rw [wput_nil]
    cases is <;> cases xs <;> rfl
  | c :: ws, j, [], xs, _ => by cases xs <;> rfl
  | c :: ws, j, i :: is, [], _ => rfl
  | c :: ws, j, i :: is, x :: xs, h => by
    have h0 := h
    simp only [wasc, Bool.and_eq_true, Nat.ble_eq] at h
    show (bif Nat.beq j i then x :: wmrg (j + 1) ws is xs else c :: wmrg (j + 1) ws (i :: is) (x :: xs)) = _
    by_cases hji : j = i
    · subst hji
      have e1 : Nat.beq j j = true := Nat.beq_refl j
      rw [e1]
      show x :: wmrg (j + 1) ws is xs = wput ((c :: ws).set (j - j) x) (is.map (fun i => i - j)) xs
      rw [Nat.sub_self]
      show _ = wput (x :: ws) (is.map (fun i => i - j)) xs
      rw [wmrg_wput ws (j + 1) is xs h.2, ← wput_cons]
      congr 1
      rw [List.map_map]
      apply List.map_congr_left
      intro a ha
      have := wasc_ge is (j + 1) h.2 a ha
      simp only [Function.comp_def]; omega
    · have e1 : Nat.beq j i = false := by
        cases hb : Nat.beq j i with
        | false => rfl
        | true => exact absurd (Nat.eq_of_beq_eq_true hb) hji
      rw [e1]
      show c :: wmrg (j + 1) ws (i :: is) (x :: xs) = _
      have h1 : wasc (j + 1) (i :: is) = true := by
        simp only [wasc, Bool.and_eq_true, Nat.ble_eq]
        exact ⟨by omega, h.2⟩
      rw [wmrg_wput ws (j + 1) (i :: is) (x :: xs) h1, ← wput_cons]
      congr 1
      rw [List.map_map]
      apply List.map_congr_left
      intro a ha
      have := wasc_ge (i :: is) (j + 1) h1 a ha
      simp only [Function.comp_def]; omega
theorem wmrg_0 {ws xs ws' : va_W} {is : List Nat} (h : wasc 0 is = true) (e : wmrg 0 ws is xs = ws') : wput ws is xs = ws' := by
  rw [wmrg_wput ws 0 is xs h] at e
  simpa using e
theorem va_P_cong {D : va_G} {cl : List vw_C} {ws : va_W} {H : Heap} {k a N : Nat} {cA : ClassId} {f g : Nat → Int32} (h : va_P D cl (ws.set k (a, .inl (cA, N, .inl f))) H) (e : ∀ j, j < N → f j = g j) : va_P D cl (ws.set k (a, .inl (cA, N, .inl g))) H := by
  intro i q hq
  rw [List.getElem?_set] at hq
  by_cases hi : k = i
  · subst hi
    by_cases hl : k < ws.length
    · rw [if_pos rfl, if_pos hl] at hq
      cases hq
      have h1 := h k (a, .inl (cA, N, .inl f)) (by rw [List.getElem?_set, if_pos rfl, if_pos hl])
      show H[a]? = some (vp_cell cA (N, .inl g))
      have h2 : H[a]? = some (vp_cell cA (N, .inl f)) := h1
      rw [h2, vp_cell_i, vp_cell_i]
      congr 1
      unfold arrV
      congr 2
      funext j
      exact congrArg Value.int (e j.val j.isLt)
    · rw [if_pos rfl, if_neg hl] at hq; cases hq
  · rw [if_neg hi] at hq
    exact h i q (by rw [List.getElem?_set, if_neg hi]; exact hq)
section KC
variable {Γ : KG} {l : Launch} {rm : Room} {D : va_G} {ty : List (ClassId × FieldType)} {cc : ByteArray} {nL : Nat} {own : String} {w0 : Cond}
variable {n z pc tgt : Nat} {ws ws' : va_W} {lo lo' : List (Nat × Value)} {st : List Value}
theorem kw_copy (X : KX Γ l rm D ty cc nL own w0) {a0 a N idx : Nat} {cA : ClassId} {f g : Nat → Int32} {v : Int32} (E : KE Γ) (hlk : Cond.methodLink own idx arraycopyName ∈ GW) (hnat : Cond.native arraycopyName ∈ GW) (hst : Cond.static arraycopyName ∈ GW) (hin : Cond.initialized "java/lang/System" ∈ GW) (q0 q1 t0 : Nat) (ha0 : ws[q0]? = some (a0, .inl (cA, N, .inl f))) (ha1 : ws[q1]? = some (a, .inl (cA, N, .inl g))) (ht : ty[t0]? = some (cA, .int)) (hv : ¬ v < 0) (hvN : v.toNatClampNeg = N) (hR : 1 ≤ rm.frames ∧ (st.map fun v => v.category).sum + (nativeFrameWords "java/lang/System" "arraycopy" 5 + 11) ≤ rm.locals) (hws : ws.set q1 (a, .inl (cA, N, .inl f)) = ws') (d : decode cc pc = .ok (.invokestatic idx, 3))
    (kk : KW Γ n z ws' lo (pc + 3) st) : KW Γ n z ws lo pc (.int v :: .int 0 :: .ref a :: .int 0 :: .ref a0 :: st) := by
  obtain ⟨p, l', e, R, s, m, args, below, meth, c, Q, D', ty', AD, A, H0, nL'⟩ := Γ
  obtain ⟨rfl, rfl, rfl, rfl, rfl, ⟨hx, hb, hml, hown, hts⟩, hSK⟩ := X
  intro H locs ls hP hD hS hl
  obtain ⟨rfl, hA⟩ := E
  subst hws
  have z0 : (0 : Int32).toNatClampNeg = 0 := by decide
  exact va_copyi hx hb (hml.trans hl.1.symm) hown (gw_all hts hlk) (gw_all hts hnat) (gw_all hts hst) (gw_all hts hin) hSK.1 hP hD hS q0 q1 t0 t0 (ty := .int) ha0 ha1 ht ht rfl (by decide) (by decide) hv (by rw [z0, hvN]; omega) (by rw [z0, hvN]; omega) (fun _ _ => rfl) hR.1 hR.2 d (fun H1 locs1 hP1 hD1 hS1 => by
    rw [z0, hvN] at hP1 hD1
    exact kk H1 locs1 ls (va_P_cong hP1 (fun j hj => by rw [pk_cpy_in (Nat.zero_le _) (by omega)]; simp)) (va_D_fst (by rw [set_fst ha1, set_fst ha1]) hD1) hS1 hl)
end KC
theorem imin_same (x : Int32) : imin x x = x := by unfold imin; split <;> rfl
theorem cpy_neg {N : Nat} (hN : N < 2 ^ 31) : ¬ imin (nI N) (nI N) < 0 := by rw [imin_same]; exact nI_pos hN
theorem cpy_n {N : Nat} (hN : N < 2 ^ 31) : (imin (nI N) (nI N)).toNatClampNeg = N := by rw [imin_same]; exact nI_clamp hN
