theorem blk_in {A0 : Nat → Prop} {D : va_G} {cl : List vw_C} {bs : List va_W} {k0 : Nat} {wc w1 : va_W} {H H1 : Heap} (hP : va_P D cl (wj bs) H) (hD : va_D A0 (wj bs)) (hb : bs[k0]? = some wc) (hF : ∀ q, va_A wc H.size q → A0 q)
    (hk : ∀ q : Nat, q < H.size → ¬ va_A wc H.size q → H1[q]? = H[q]?) (hP1 : va_P D cl w1 H1) (hD1 : va_D (va_A wc H.size) w1) : va_P D cl (wj (bs.set k0 w1)) H1 ∧ va_D A0 (wj (bs.set k0 w1)) := by
  have hl := (List.getElem?_eq_some_iff.mp hb).1
  have hP' := wj_P.mp hP
  have hD' := wj_D.mp hD
  have apart : ∀ (j : Nat) (b : va_W) (q : Nat × va_E), j ≠ k0 → bs[j]? = some b → q ∈ b → q.1 < H.size ∧ ¬ va_A wc H.size q.1 := by
    intro j b q hj hb' hq
    obtain ⟨i, hi⟩ := List.getElem?_of_mem hq
    have hlt := ((hP' j b hb') i q hi).lt
    refine ⟨hlt, fun h => ?_⟩
    rcases h with ⟨k, e, h⟩ | h
    · exact hj (hD'.2 j k0 b wc q (q.1, e) hb' hb hq (List.mem_of_getElem? h) rfl)
    · omega
  constructor
  · rw [wj_P]
    intro j b hj
    rw [List.getElem?_set] at hj
    by_cases e : k0 = j
    · rw [if_pos e, if_pos (e ▸ hl)] at hj; cases hj; exact hP1
    · rw [if_neg e] at hj
      refine (hP' j b hj).kept (fun i q hq => ?_)
      obtain ⟨g1, g2⟩ := apart j b q (fun h => e h.symm) hj (List.mem_of_getElem? hq)
      exact hk q.1 g1 g2
  · rw [wj_D]
    refine ⟨fun j b hj => ?_, fun i j bi bj p q hi hj hp hq hpq => ?_⟩
    · rw [List.getElem?_set] at hj
      by_cases e : k0 = j
      · rw [if_pos e, if_pos (e ▸ hl)] at hj; cases hj; exact hD1.weaken (fun k q _ h => hF q.1 h)
      · rw [if_neg e] at hj; exact hD'.1 j b hj
    · rw [List.getElem?_set] at hi hj
      by_cases e1 : k0 = i
      · by_cases e2 : k0 = j
        · omega
        · rw [if_pos e1, if_pos (e1 ▸ hl)] at hi; cases hi
          rw [if_neg e2] at hj
          obtain ⟨k, hkp⟩ := List.getElem?_of_mem hp
          have h1 := hD1.2 k p hkp
          rw [hpq] at h1
          exact absurd h1 (apart j bj q (fun h => e2 h.symm) hj hq).2
      · by_cases e2 : k0 = j
        · rw [if_pos e2, if_pos (e2 ▸ hl)] at hj; cases hj
          rw [if_neg e1] at hi
          obtain ⟨k, hkq⟩ := List.getElem?_of_mem hq
          have h1 := hD1.2 k q hkq
          rw [← hpq] at h1
          exact absurd h1 (apart i bi p (fun h => e1 h.symm) hi hp).2
        · rw [if_neg e1] at hi
          rw [if_neg e2] at hj
          exact hD'.2 i j bi bj p q hi hj hp hq hpq
theorem wj_push (bs : List va_W) (b : va_W) : wj bs ++ b = wj (bs ++ [b]) := by rw [wj_app, wj_one]
theorem arr_uniq {D : va_G} {cl : List vw_C} {ty : List (ClassId × FieldType)} {s : State} {cA cB : ClassId} {t : FieldType} {k : Nat} (hK : va_K D cl (ty ++ [(cA, t)]) s) (hk : ty[k]? = some (cB, t)) (hobj : ∀ C, t ≠ .object C) : cA = cB := by
  have h1 := (hK.2 ty.length (cA, t) (by simp)).2
  have h2 := (hK.2 k (cB, t) (by rw [List.getElem?_append_left (List.getElem?_eq_some_iff.mp hk).1]; exact hk)).2
  cases t with
  | object C => exact absurd rfl (hobj C)
  | _ =>
    have h1' : s.vm.findClass _ = some cA := h1
    have h2' : s.vm.findClass _ = some cB := h2
    exact Option.some.inj (h1'.symm.trans h2')
theorem arr_uniqO {D : va_G} {cl : List vw_C} {ty : List (ClassId × FieldType)} {s : State} {cA cB : ClassId} {C : String} {k : Nat} (hK : va_K D cl (ty ++ [(cA, .object C)]) s) (hk : ty[k]? = some (cB, .object C)) : cA = cB := by
  obtain ⟨_, _, _, _, _, h1⟩ := (hK.2 ty.length (cA, .object C) (by simp)).2
  obtain ⟨_, _, _, _, _, h2⟩ := (hK.2 k (cB, .object C) (by rw [List.getElem?_append_left (List.getElem?_eq_some_iff.mp hk).1]; exact hk)).2
  exact Option.some.inj (h1.symm.trans h2)
section KD
variable {Γ : KG} {l : Launch} {rm : Room} {D : va_G} {ty : List (ClassId × FieldType)} {cc : ByteArray} {nL : Nat} {own : String} {w0 : Cond}
variable {n z pc tgt : Nat} {bs bs' : List va_W} {lo lo' : List (Nat × Value)} {st : List Value}
theorem kb_putF (X : KX Γ l rm D ty cc nL own w0) {C : String} {F : u_T} {N ci idx a : Nat} {fs : List Value} {t : FieldType} {v : Value} (E : KE Γ) (hin : ∀ w ∈ u_ws C F N, w ∈ GW) (ty0 : Nat → FieldType) (hty : ∀ k, k < N → parseFieldDescriptor (F k).2.2.1 = some (ty0 k)) (hnm : ∀ a, a < N → ∀ b, b < N → a ≠ b → (F a).2.1 ≠ (F b).2.1) (k0 q0 : Nat) {blk : va_W} (hb : bs[k0]? = some blk) (he : blk[q0]? = some (a, .inr (ci, fs))) (hc : vwCl[ci]? = some (C, F, N)) (k : Nat) (hk : k < N) (hCk : (F k).1 = C) (hN : KN Γ) (hown0 : C = own) (hlink : Cond.fieldLink own idx C (F k).2.1 (F k).2.2.1 ∈ GW) (hfin : (F k).2.2.2 = true) (hd : parseFieldDescriptor (F k).2.2.1 = some t) (hn : narrow t v = v) (hfit : fits t v = true) (hlen : k < fs.length) (hws : bs.set k0 (blk.set q0 (a, .inr (ci, fs.set k v))) = bs') (d : decode cc pc = .ok (.putfield idx, 3))
    (kk : KW Γ n z (wj bs') lo (pc + 3) st) : KW Γ n z (wj bs) lo pc (v :: .ref a :: st) := by
  obtain ⟨p, l', e, R, s, m, args, below, meth, c, Q, D', ty', AD, A, H0, nL'⟩ := Γ
  obtain ⟨rfl, rfl, rfl, rfl, rfl, ⟨hx, hbc, hml, hown, hts⟩, hSK⟩ := X
  intro H locs ls hP hD hS hl
  obtain ⟨rfl, hA⟩ := E
  subst hws
  obtain ⟨i, hi, hset⟩ := wj_at hb he
  exact va_putF hx hbc (T := F) hts (fun w h => List.mem_cons_of_mem _ (hin w h)) ty0 hty hnm hown hSK.1 hP hD hS i hi hc k hk (gw_all hts hlink) (fun _ h => hCk ▸ h) hfin hN (hCk.trans hown0) hd hn hfit hlen d (fun H1 locs1 hP1 hD1 hS1 => kk H1 locs1 ls (by rw [← hset]; exact hP1) (by rw [← hset]; exact hD1) hS1 hl)
theorem kb_obj (X : KX Γ l rm D ty cc nL own w0) {a idx : Nat} (hl1 : Cond.methodLink own idx objectInit ∈ GW) (hl2 : Cond.instanceMethod objectInit ∈ GW) (hl3 : Cond.code objectInit ⟨#[0xb1]⟩ 1 none ∈ GW) (hR : 1 ≤ rm.frames ∧ (st.map fun v => v.category).sum + 12 ≤ rm.locals) (d : decode cc pc = .ok (.invokespecial idx, 3))
    (kk : KW Γ n z (wj bs) lo (pc + 3) st) : KW Γ n z (wj bs) lo pc (.ref a :: st) := by
  obtain ⟨p, l', e, R, s, m, args, below, meth, c, Q, D', ty', AD, A, H0, nL'⟩ := Γ
  obtain ⟨rfl, rfl, rfl, rfl, rfl, ⟨hx, hbc, hml, hown, hts⟩, hSK⟩ := X
  intro H locs ls hP hD hS hl
  exact W.objInit hx hbc hown (gw_all hts hl1) (gw_all hts hl2) (gw_all hts hl3) rfl (hl.1.trans hml.symm) rfl d hR.1 (by show 2 * 0 + _ + 12 ≤ _; have := hR.2; omega) (kk H locs ls hP hD hS hl)
theorem kb_new (X : KX Γ l rm D ty cc nL own w0) {C : String} {F : u_T} {N ci idx : Nat} {fs : List Value} (E : KE Γ) (hin : ∀ w ∈ u_ws C F N, w ∈ GW) (ty0 : Nat → FieldType) (hty : ∀ k, k < N → parseFieldDescriptor (F k).2.2.1 = some (ty0 k)) (hcl : Cond.classLink own idx C ∈ GW) (hinst : Cond.instantiable C N ∈ GW) (hini : Cond.initialized C ∈ GW) (hc : vwCl[ci]? = some (C, F, N)) (hfs : ∀ j, j < N → defaultValue (ty0 j) = vp_V fs j) (hR : n + 1 ≤ rm.cells ∧ z + N ≤ rm.slots) (d : decode cc pc = .ok (.new idx, 3))
    (kk : ∀ q : Nat, KW Γ (n + 1) (z + N) (wj (bs ++ [[(q, .inr (ci, fs))]])) lo (pc + 3) (.ref q :: st)) : KW Γ n z (wj bs) lo pc (st) := by
  obtain ⟨p, l', e, R, s, m, args, below, meth, c, Q, D', ty', AD, A, H0, nL'⟩ := Γ
  obtain ⟨rfl, rfl, rfl, rfl, rfl, ⟨hx, hbc, hml, hown, hts⟩, hSK⟩ := X
  intro H locs ls hP hD hS hl
  obtain ⟨rfl, hA⟩ := E
  exact va_new hx hbc (T := F) hts (fun w h => List.mem_cons_of_mem _ (hin w h)) ty0 hty hown (gw_all hts hcl) (gw_all hts hinst) (gw_all hts hini) hSK.1 hP hD hS hA hc hfs hR.1 hR.2 d (fun q H1 hP1 hD1 hS1 => kk q H1 locs ls (by rw [← wj_push]; exact hP1) (by rw [← wj_push]; exact hD1) hS1 hl)
theorem kb_newa (X : KX Γ l rm D ty cc nL own w0) {atype : ArrayType} {t : FieldType} {v : Int32} {N t0 : Nat} {cA : ClassId} (E : KE Γ) (harr : Cond.arrayClass (newarray.typeOf atype) ∈ GW) (hty : newarray.typeOf atype = t) (ht : ty[t0]? = some (cA, t)) (hobj : ∀ C, t ≠ .object C) (hdef : defaultValue t = .int 0) (hn : ¬ v < 0) (hN : v.toNatClampNeg = N) (hby : N * componentBytes t ≤ 536870912) (hR : n + 1 ≤ rm.cells ∧ z + N ≤ rm.slots) (d : decode cc pc = .ok (.newarray atype, 2))
    (kk : ∀ q : Nat, KW Γ (n + 1) (z + N) (wj (bs ++ [[(q, .inl (cA, N, .inl (fun _ => 0)))]])) lo (pc + 2) (.ref q :: st)) : KW Γ n z (wj bs) lo pc (.int v :: st) := by
  obtain ⟨p, l', e, R, s, m, args, below, meth, c, Q, D', ty', AD, A, H0, nL'⟩ := Γ
  obtain ⟨rfl, rfl, rfl, rfl, rfl, ⟨hx, hbc, hml, hown, hts⟩, hSK⟩ := X
  intro H locs ls hP hD hS hl
  obtain ⟨rfl, hA⟩ := E
  exact va_newa hx hbc (gw_all hts harr) hty hSK.1 hP hD hS hA (a0 := (N, .inl (fun _ => 0))) (fun cA => by rw [hdef]; rfl) hn hN hby hR.1 hR.2 d (fun q cA' H1 hK1 hP1 hD1 hS1 => by
    have e := arr_uniq hK1 ht hobj
    subst e
    exact kk q H1 locs ls (by rw [← wj_push]; exact hP1) (by rw [← wj_push]; exact hD1) hS1 hl)
theorem kb_newq (X : KX Γ l rm D ty cc nL own w0) {v : Int32} {idx N t0 : Nat} {cA : ClassId} (E : KE Γ) (hcl : Cond.classLink own idx RX3 ∈ GW) (ht : ty[t0]? = some (cA, .object RX3)) (hn : ¬ v < 0) (hN : v.toNatClampNeg = N) (hby : N * 4 ≤ 536870912) (hR : n + 1 ≤ rm.cells ∧ z + N ≤ rm.slots) (d : decode cc pc = .ok (.anewarray idx, 3))
    (kk : ∀ q : Nat, KW Γ (n + 1) (z + N) (wj (bs ++ [[(q, .inl (cA, N, .inr (.inr (.inr (.inr (fun _ => none))))))]])) lo (pc + 3) (.ref q :: st)) : KW Γ n z (wj bs) lo pc (.int v :: st) := by
  obtain ⟨p, l', e, R, s, m, args, below, meth, c, Q, D', ty', AD, A, H0, nL'⟩ := Γ
  obtain ⟨rfl, rfl, rfl, rfl, rfl, ⟨hx, hbc, hml, hown, hts⟩, hSK⟩ := X
  intro H locs ls hP hD hS hl
  obtain ⟨rfl, hA⟩ := E
  exact va_newq hx hbc hown (gw_all hts hcl) hSK.2.2 hSK.1 hP hD hS hA hn hN hby hR.1 hR.2 d (fun q cA' H1 hK1 hP1 hD1 hS1 => by
    have e := arr_uniqO hK1 ht
    subst e
    exact kk q H1 locs ls (by rw [← wj_push]; exact hP1) (by rw [← wj_push]; exact hD1) hS1 hl)
theorem kb_aast (X : KX Γ l rm D ty cc nL own w0) {a v : Nat} {cA : ClassId} {r : vw_C} {N ci : Nat} {vs : List Value} {f : Nat → Option Nat} {i : Int32} {blk blv : va_W} (E : KE Γ) (k0 q0 t0 kv qv : Nat) (hb : bs[k0]? = some blk) (ha : blk[q0]? = some (a, .inl (cA, N, .inr (.inr (.inr (.inr f)))))) (ht : ty[t0]? = some (cA, .object r.1)) (hbv : bs[kv]? = some blv) (hv : blv[qv]? = some (v, .inr (ci, vs))) (hc : vwCl[ci]? = some r) (hin : vp_in i N) (hws : bs.set k0 (blk.set q0 (a, .inl (cA, N, .inr (.inr (.inr (.inr (va_up f i.toNatClampNeg (some v)))))))) = bs') (d : decode cc pc = .ok (.aastore, 1))
    (kk : KW Γ n z (wj bs') lo (pc + 1) st) : KW Γ n z (wj bs) lo pc (.ref v :: .int i :: .ref a :: st) := by
  obtain ⟨p, l', e, R, s, m, args, below, meth, c, Q, D', ty', AD, A, H0, nL'⟩ := Γ
  obtain ⟨rfl, rfl, rfl, rfl, rfl, ⟨hx, hbc, hml, hown, hts⟩, hSK⟩ := X
  intro H locs ls hP hD hS hl
  obtain ⟨rfl, hA⟩ := E
  subst hws
  obtain ⟨i1, hi1, hset⟩ := wj_at hb ha
  obtain ⟨i2, hi2, -⟩ := wj_at hbv hv
  exact va_astq hx hbc hSK.1 hP hD hS i1 t0 i2 ci hi1 ht hi2 hc hin d (fun H1 locs1 hP1 hD1 hS1 => kk H1 locs1 ls (by rw [← hset]; exact hP1) (by rw [← hset]; exact hD1) hS1 hl)
theorem kb_in (X : KX Γ l rm D ty cc nL own w0) {y : MethodName} {cy : ByteArray} {my idx b k mc ms : Nat} {rc : Room} {As stk : List Value} {wc : va_W} {W1 : (Nat → Nat) → va_W} (E : KE Γ) (hM : MNq l y cy my none rc D ty (.ref b :: As) wc W1 mc ms) (vl : (Cond.methodLink own idx y ∈ GW ∧ Cond.instanceMethod y ∈ GW ∧ Cond.initialized y.cls ∈ GW) ∧ Cond.code y cy my none ∈ GW) (hd : YV y y.cls k) (hyn : y.name = "<init>") (hR : rc.frames + 1 ≤ rm.frames ∧ 8 + (my + 11) + rc.locals ≤ rm.locals) (hR0 : rc.cells = mc ∧ rc.slots = ms) (hnz : n + mc ≤ rm.cells ∧ z + ms ≤ rm.slots) (k0 : Nat) (hb : bs[k0]? = some wc) (hst : stk = As.reverse ++ .ref b :: st) (hAs : As.length = k) (hcat : (st.map fun v => v.category).sum ≤ 8) (d : decode cc pc = .ok (.invokespecial idx, 3))
    (kk : ∀ a : Nat → Nat, KW Γ (n + mc) (z + ms) (wj (bs.set k0 (W1 a))) lo (pc + 3) st) : KW Γ n z (wj bs) lo pc stk := by
  obtain ⟨p, l', e, R, s, m, args, below, meth, c, Q, D', ty', AD, A, H0, nL'⟩ := Γ
  obtain ⟨rfl, rfl, rfl, rfl, rfl, ⟨hx, hbc, hml, hown, hts⟩, hSK⟩ := X
  intro H locs ls hP hD hS hl
  obtain ⟨rfl, hA⟩ := E
  subst hst
  have hPc := blk_P hb hP
  have hDc : va_D (fun _ => True) wc := (blk_sub hb hD).weaken (fun _ _ _ _ => trivial)
  have hC : [k0].map (fun i => bs[i]?) = [wc].map some := by simp [hb]
  have hF := sel_F (sz := H.size) hC hD (fun q h => hA q (Nat.le_trans hS.1 h))
  rw [wj_one] at hF
  exact kw_backE (va_runI (As := As) (rest := st) ⟨hx, hbc, hml, hown, hts⟩ (hM H.size) (cwI k hts (gw_sub vl.2) rfl hR0.1 hR0.2 (gw_all hts vl.1.2.2) (gw_all hts vl.1.1) (gw_all hts vl.1.2.1) hyn hd.2 hR) ⟨fun a U g mk q => by obtain ⟨q0, q4, q1, q2, q3⟩ := q; exact ⟨q0, q4, q1, q2.calling g mk a, q3⟩, fun U hU hW => ⟨rfl, by rw [hU], by rw [hU]; exact hPc, hSK.moved hW, hDc⟩⟩ rfl hAs hl.1 rfl (lv_room hcat) d ⟨hnz.1, hnz.2⟩) hS hF (fun t H1 locs1 ht hB hz hk hS1 => by
    obtain ⟨a, hP1, hD1⟩ := hB
    rw [ht] at hP1
    obtain ⟨hP2, hD2⟩ := blk_in hP hD hb hF hk hP1 hD1
    exact kk a H1 locs1 ls hP2 hD2 hS1 hl)
theorem kb_inN (X : KX Γ l rm D ty cc nL own w0) {host : String} {y : MethodName} {cy : ByteArray} {my idx b k mc ms : Nat} {rc : Room} {As stk : List Value} {wc : va_W} {W1 : (Nat → Nat) → va_W} (E : KE Γ) (hM : MNq l y cy my none rc D ty (.ref b :: As) wc W1 mc ms) (hlk : Cond.methodLinkNest own idx y host ∈ NWL) (vl : (Cond.instanceMethod y ∈ GW ∧ Cond.initialized y.cls ∈ GW) ∧ Cond.code y cy my none ∈ GW) (hd : YV y y.cls k) (hyn : y.name = "<init>") (hR : rc.frames + 1 ≤ rm.frames ∧ 8 + (my + 11) + rc.locals ≤ rm.locals) (hR0 : rc.cells = mc ∧ rc.slots = ms) (hnz : n + mc ≤ rm.cells ∧ z + ms ≤ rm.slots) (k0 : Nat) (hb : bs[k0]? = some wc) (hst : stk = As.reverse ++ .ref b :: st) (hAs : As.length = k) (hcat : (st.map fun v => v.category).sum ≤ 8) (d : decode cc pc = .ok (.invokespecial idx, 3))
    (kk : ∀ a : Nat → Nat, KW Γ (n + mc) (z + ms) (wj (bs.set k0 (W1 a))) lo (pc + 3) st) : KW Γ n z (wj bs) lo pc stk := by
  obtain ⟨p, l', e, R, s, m, args, below, meth, c, Q, D', ty', AD, A, H0, nL'⟩ := Γ
  obtain ⟨rfl, rfl, rfl, rfl, rfl, ⟨hx, hbc, hml, hown, hts⟩, hSK⟩ := X
  intro H locs ls hP hD hS hl
  obtain ⟨rfl, hA⟩ := E
  subst hst
  have hPc := blk_P hb hP
  have hDc : va_D (fun _ => True) wc := (blk_sub hb hD).weaken (fun _ _ _ _ => trivial)
  have hC : [k0].map (fun i => bs[i]?) = [wc].map some := by simp [hb]
  have hF := sel_F (sz := H.size) hC hD (fun q h => hA q (Nat.le_trans hS.1 h))
  rw [wj_one] at hF
  exact kw_backE (va_runIN (As := As) (rest := st) ⟨hx, hbc, hml, hown, hts⟩ (hM H.size) ⟨va_cnB k hts (gw_sub vl.2) rfl hR0.1 hR0.2 (hSK.2.1 _ hlk) (gw_all hts vl.1.2) hd.2 hR, hyn, gw_all hts vl.1.1⟩ ⟨fun a U g mk q => by obtain ⟨q0, q4, q1, q2, q3⟩ := q; exact ⟨q0, q4, q1, q2.calling g mk a, q3⟩, fun U hU hW => ⟨rfl, by rw [hU], by rw [hU]; exact hPc, hSK.moved hW, hDc⟩⟩ rfl hAs hl.1 rfl (lv_room hcat) d ⟨hnz.1, hnz.2⟩) hS hF (fun t H1 locs1 ht hB hz hk hS1 => by
    obtain ⟨a, hP1, hD1⟩ := hB
    rw [ht] at hP1
    obtain ⟨hP2, hD2⟩ := blk_in hP hD hb hF hk hP1 hD1
    exact kk a H1 locs1 ls hP2 hD2 hS1 hl)
theorem kb_sev (X : KX Γ l rm D ty cc nL own w0) {y : MethodName} {cy : ByteArray} {my idx k : Nat} {rc : Room} {As stk : List Value} {wc w1 : va_W} (E : KE Γ) (hM : MEq l y cy my none rc D ty As wc w1 none) (vl : (Cond.methodLink own idx y ∈ GW ∧ Cond.static y ∈ GW ∧ Cond.initialized y.cls ∈ GW) ∧ Cond.code y cy my none ∈ GW) (hd : YV y y.cls k) (hR : rc.frames + 1 ≤ rm.frames ∧ 8 + (my + 11) + rc.locals ≤ rm.locals) (hR0 : rc.cells = 0 ∧ rc.slots = 0) (hnz : n ≤ rm.cells ∧ z ≤ rm.slots) (k0 : Nat) (hb : bs[k0]? = some wc) (hst : stk = As.reverse ++ st) (hAs : As.length = k) (hcat : (st.map fun v => v.category).sum ≤ 8) (d : decode cc pc = .ok (.invokestatic idx, 3)) (as : List Nat) (hf1 : w1.map (·.1) = as) (hf2 : wc.map (·.1) = as) (hws : bs.set k0 w1 = bs')
    (kk : KW Γ n z (wj bs') lo (pc + 3) st) : KW Γ n z (wj bs) lo pc stk := by
  obtain ⟨p, l', e, R, s, m, args, below, meth, c, Q, D', ty', AD, A, H0, nL'⟩ := Γ
  obtain ⟨rfl, rfl, rfl, rfl, rfl, ⟨hx, hbc, hml, hown, hts⟩, hSK⟩ := X
  intro H locs ls hP hD hS hl
  obtain ⟨rfl, hA⟩ := E
  subst hst
  have hPc := blk_P hb hP
  have hDc : va_D (fun _ => True) wc := (blk_sub hb hD).weaken (fun _ _ _ _ => trivial)
  have hC : [k0].map (fun i => bs[i]?) = [wc].map some := by simp [hb]
  have hF := sel_F (sz := H.size) hC hD (fun q h => hA q (Nat.le_trans hS.1 h))
  rw [wj_one] at hF
  exact kw_backE (mc := 0) (ms := 0) (va_runS (As := As) (rest := st) ⟨hx, hbc, hml, hown, hts⟩ (hM H.size) ⟨callB_of k hts (gw_sub vl.2) rfl hR0.1 hR0.2 (gw_all hts vl.1.2.2) (gw_all hts vl.1.1) hd.2 hR, gw_all hts vl.1.2.1⟩ ⟨fun a U g mk q => by obtain ⟨q0, q4, q1, q2, q3⟩ := q; exact ⟨q0, q4, q1, q2.calling g mk a, q3⟩, fun U hU hW => ⟨rfl, by rw [hU], by rw [hU]; exact hPc, hSK.moved hW, hDc⟩⟩ rfl hAs hl.1 rfl (lv_room hcat) d ⟨hnz.1, hnz.2⟩) hS hF (fun t H1 locs1 ht hB hz hk hS1 => by
    obtain ⟨hP1, hD1⟩ := hB
    rw [ht] at hP1
    obtain ⟨hP2, hD2⟩ := lput_join hP hD [k0] hC rfl (w1 := [w1]) (by simp [wa, hf1, hf2]) (by rw [wj_one]; exact hk) (by rw [wj_one]; exact hP1)
    have e : lput bs [k0] [w1] = bs' := hws
    rw [e] at hP2 hD2
    exact kk H1 locs1 ls hP2 hD2 hS1 hl)
theorem kb_iald (X : KX Γ l rm D ty cc nL own w0) {a : Nat} {cA : ClassId} {N : Nat} {f : Nat → Int32} {i v : Int32} {blk : va_W} (k0 q0 t0 : Nat) (hb : bs[k0]? = some blk) (ha : blk[q0]? = some (a, .inl (cA, N, .inl f))) (ht : ty[t0]? = some (cA, .int)) (hin : vp_in i N) (hv : f i.toNatClampNeg = v) (d : decode cc pc = .ok (.iaload, 1))
    (kk : KW Γ n z (wj bs) lo (pc + 1) (.int v :: st)) : KW Γ n z (wj bs) lo pc (.int i :: .ref a :: st) := by
  obtain ⟨p, l', e, R, s, m, args, below, meth, c, Q, D', ty', AD, A, H0, nL'⟩ := Γ
  obtain ⟨rfl, rfl, rfl, rfl, rfl, ⟨hx, hbc, hml, hown, hts⟩, hSK⟩ := X
  intro H locs ls hP hD hS hl
  subst hv
  exact va_iald hx hbc hSK.1 (blk_P hb hP) q0 t0 ha ht hin d (kk H locs ls hP hD hS hl)
theorem kb_iast (X : KX Γ l rm D ty cc nL own w0) {a : Nat} {cA : ClassId} {N : Nat} {f : Nat → Int32} {i x : Int32} {blk : va_W} (E : KE Γ) (k0 q0 t0 : Nat) (hb : bs[k0]? = some blk) (ha : blk[q0]? = some (a, .inl (cA, N, .inl f))) (ht : ty[t0]? = some (cA, .int)) (hin : vp_in i N) (hws : bs.set k0 (blk.set q0 (a, .inl (cA, N, .inl (upd f i.toNatClampNeg x)))) = bs') (d : decode cc pc = .ok (.iastore, 1))
    (kk : KW Γ n z (wj bs') lo (pc + 1) st) : KW Γ n z (wj bs) lo pc (.int x :: .int i :: .ref a :: st) := by
  obtain ⟨p, l', e, R, s, m, args, below, meth, c, Q, D', ty', AD, A, H0, nL'⟩ := Γ
  obtain ⟨rfl, rfl, rfl, rfl, rfl, ⟨hx, hbc, hml, hown, hts⟩, hSK⟩ := X
  intro H locs ls hP hD hS hl
  obtain ⟨rfl, hA⟩ := E
  subst hws
  obtain ⟨i1, hi1, hset⟩ := wj_at hb ha
  exact va_iast hx hbc hSK.1 hP hD hS i1 t0 hi1 ht hin d (fun H1 locs1 hP1 hD1 hS1 => kk H1 locs1 ls (by rw [← hset]; exact hP1) (by rw [← hset]; exact hD1) hS1 hl)
theorem kb_aeq {a : Nat} {cA : ClassId} {N : Nat} {f g : Nat → Option Nat} (k0 : Nat) (hb : bs[k0]? = some [(a, .inl (cA, N, .inr (.inr (.inr (.inr f)))))]) (e : ∀ j, j < N → f j = g j) (hws : bs.set k0 [(a, .inl (cA, N, .inr (.inr (.inr (.inr g)))))] = bs') (kk : KW Γ n z (wj bs') lo pc st) : KW Γ n z (wj bs) lo pc st := by
  obtain ⟨p, l', e', R, s, m, args, below, meth, c, Q, D', ty', AD, A, H0, nL'⟩ := Γ
  intro H locs ls hP hD hS hl
  subst hws
  have hb2 := blk_P hb hP
  obtain ⟨h1, h2⟩ := blk_set (b' := [(a, .inl (cA, N, .inr (.inr (.inr (.inr g)))))]) (a := a) hb hP hD rfl ⟨_, List.mem_cons_self⟩ (H1 := H) (fun _ _ => rfl) (fun k q hq => by
    have hz : k < 1 := (List.getElem?_eq_some_iff.mp hq).1
    rw [show k = 0 by omega] at hq
    cases hq
    have h3 : H[a]? = some (vp_cell cA (N, .inr (.inr (.inr (.inr f))))) := hb2 0 _ rfl
    show H[a]? = some (vp_cell cA (N, .inr (.inr (.inr (.inr g)))))
    rw [h3, vp_cell_q, vp_cell_q]
    congr 1
    unfold arrV
    congr 2
    funext j
    exact congrArg va_rf (e j.val j.isLt))
  exact kk H locs ls h1 h2 hS hl
theorem wj_last (a b : List va_W) : wj (a ++ [wj b]) = wj (a ++ b) := by rw [wj_app, wj_app, wj_one]
end KD
