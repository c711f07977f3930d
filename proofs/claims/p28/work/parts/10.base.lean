
/-! the walk over pure data: a state of a body is a list of cells, a list of locals, a place, a stack -/
abbrev KG : Type := Program × Launch × Env × Room × State × MethodId × Array Value × List Frame × Method × Code × (State → Prop) × va_G × List (ClassId × FieldType) × (Nat → Prop) × (Nat → Prop) × Heap × Nat
def KW (Γ : KG) (cells slots : Nat) (ws : va_W) (lo : List (Nat × Value)) (pc : Nat) (st : List Value) : Prop :=
  match Γ with
  | (p, l, e, R, s, m, args, below, meth, c, Q, D, _, AD, A, H0, nL) => ∀ (H : Heap) (locs : List Loc) (ls : Array Slot), va_P D vwCl ws H → va_D AD ws → va_S A H0 H locs → lv_has ls nL lo → W p l e R s m args below meth c H locs cells slots Q (F0 m pc ls st)
/-- what the start gives of the machine's tables -/
def SK (D : va_G) (ty : List (ClassId × FieldType)) (U : State) : Prop := va_K D vwCl ty U ∧ (∀ w ∈ NWL, va_Nw w U) ∧ va_AO RX3 U
theorem SK.moved {D : va_G} {ty : List (ClassId × FieldType)} {u U : State} (hW : u.WarmedH U.vm) (h : SK D ty u) : SK D ty U := by
  refine ⟨va_K.moved hW.alike h.1, fun w hw => ?_, va_AO.moved hW.alike h.2.2⟩
  have h2 := h.2.1 w hw
  rcases nwl_kind w hw with ⟨a, i, b, n, d, g, rfl⟩ | ⟨a, i, x, g, rfl⟩
  · exact va_Nw.warmF hW h2
  · exact va_Nw.warmM hW h2
theorem SK.calling {D : va_G} {ty : List (ClassId × FieldType)} {U : State} (h : SK D ty U) (g : JFrame) (mk : MethodId) (a : Array Value) : SK D ty (U.calling g mk a) := by
  refine ⟨va_K.moved (u := U) (U := U.calling g mk a) (Vm.Alike.refl U.vm) h.1, fun w hw => ?_, va_AO.moved (u := U) (U := U.calling g mk a) (Vm.Alike.refl U.vm) h.2.2⟩
  have h2 := h.2.1 w hw
  rcases nwl_kind w hw with ⟨a1, i, b, n, d, g1, rfl⟩ | ⟨a1, i, x, g1, rfl⟩
  · exact va_Nw.same (u := U) (U := U.calling g mk a) rfl rfl h2
  · exact va_Nw.same (u := U) (U := U.calling g mk a) rfl rfl h2
def KX (Γ : KG) (l : Launch) (rm : Room) (D : va_G) (ty : List (ClassId × FieldType)) (cc : ByteArray) (nL : Nat) (own : String) (w0 : Cond) : Prop :=
  match Γ with
  | (p, l', _, R, s, m, args, _, _, c, _, D', ty', _, _, _, nL') => l' = l ∧ R = rm ∧ D' = D ∧ ty' = ty ∧ nL' = nL ∧ CallFix p m c cc nL' s args (w0 :: GW) own ∧ SK D' ty' s
def KE (Γ : KG) : Prop :=
  match Γ with
  | (_, _, _, _, _, _, _, _, _, _, _, _, _, AD, A, H0, _) => AD = A ∧ ∀ q : Nat, H0.size ≤ q → A q
def KN (Γ : KG) : Prop :=
  match Γ with
  | (_, _, _, _, _, _, _, _, meth, _, _, _, _, _, _, _, _) => meth.name = "<init>"
theorem gw_good : ∀ w ∈ GW, (w.onTables && w.keeps) = true ∨ ∃ ty, w = .arrayClass ty := fun w h => good_of_word (List.mem_filter.mp h).2
theorem gw_all {w : Cond} {w0 : Cond} {args : Array Value} {s : State} (hts : ∀ w ∈ (w0 :: GW), w.before args s = true) (h : w ∈ GW) : w.before args s = true := hts w (List.mem_cons_of_mem _ h)
/-! contracts -/
def MPi (l : Launch) (y : MethodName) (cc : ByteArray) (ml : Nat) (ret : Option FieldType) (rm : Room) (D : va_G) (ty : List (ClassId × FieldType)) (av : List Value) (W0 : va_W) (r : Value) : Prop :=
  Met l y (mws y cc ml ret) rm (va_Pc av (fun U => va_P D vwCl W0 U.heap ∧ SK D ty U ∧ va_D (fun _ => True) W0)) (fun _ st oc t => oc = .returned (some r) ∧ va_F (fun _ => False) st t) 0 0 (fun _ => False)
def MEq (l : Launch) (y : MethodName) (cc : ByteArray) (ml : Nat) (ret : Option FieldType) (rm : Room) (D : va_G) (ty : List (ClassId × FieldType)) (av : List Value) (W0 : va_W) (W1 : va_W) (r : Option Value) : Prop :=
  ∀ sz : Nat, Met l y (mws y cc ml ret) rm (va_Pc av (fun U => U.heap.size = sz ∧ va_P D vwCl W0 U.heap ∧ SK D ty U ∧ va_D (fun _ => True) W0)) (fun _ st oc t => (oc = .returned r ∧ va_P D vwCl W1 t.heap ∧ va_D (va_A W0 sz) W1) ∧ va_F (va_A W0 sz) st t) 0 0 (va_A W0 sz)
/-- a method that makes cells: its world behind it is one of a family -/
def MNq (l : Launch) (y : MethodName) (cc : ByteArray) (ml : Nat) (ret : Option FieldType) (rm : Room) (D : va_G) (ty : List (ClassId × FieldType)) (av : List Value) (W0 : va_W) (W1 : (Nat → Nat) → va_W) (mc ms : Nat) : Prop :=
  ∀ sz : Nat, Met l y (mws y cc ml ret) rm (va_Pc av (fun U => U.heap.size = sz ∧ va_P D vwCl W0 U.heap ∧ SK D ty U ∧ va_D (fun _ => True) W0)) (fun _ st oc t => (oc = .returned none ∧ ∃ a : Nat → Nat, va_P D vwCl (W1 a) t.heap ∧ va_D (va_A W0 sz) (W1 a)) ∧ va_F (va_A W0 sz) st t) mc ms (va_A W0 sz)
theorem me_p {l : Launch} {D : va_G} {ty : List (ClassId × FieldType)} {y : MethodName} {cc : ByteArray} {ml : Nat} {rt : FieldType} {rm : Room} {av : List Value} {W0 : va_W} {lo : List (Nat × Value)} {r : Int32} (hy : plainName y.cls = true) (hlen : (lg_sl av).length ≤ ml) (hlo : lv_args 0 av = lo)
    (k : ∀ Γ : KG, KX Γ l rm D ty cc ml y.cls (.code y cc ml (some rt)) → (∀ ws lo pc, narrow rt (.int r) = .int r → decode cc pc = .ok (.ireturn, 1) → KW Γ 0 0 ws lo pc [.int r]) → KW Γ 0 0 W0 lo 0 []) : MPi l y cc ml (some rt) rm D ty av W0 (.int r) := by
  refine Met.ofW (cc := cc) (maxL := ml) (ret := some rt) hy rfl ?_
  intro p e s m args below meth c s₁ B hml hv
  obtain ⟨rfl, hP, hSK, hD0⟩ := hv
  have hl := lv_entry av (n := ml) hlen
  rw [hlo] at hl
  rw [lg_entry_eq]
  refine k (p, l, e, rm, s, m, av.toArray, below, meth, c, _, D, ty, (fun _ => True), (fun _ => False), s.heap, ml) ⟨rfl, rfl, rfl, rfl, rfl, ⟨B.exec, B.bytes, hml, findClass_of_methodNamed B.named, atoms_spec (ws := mws y cc ml (some rt)) B.pre⟩, hSK⟩ ?_ s.heap [] _ hP hD0 va_S.rf hl
  intro ws lo pc hn d H locs ls hP hD hS hl
  exact W.zret B.exec B.bytes B.returns hn (fun t ht hW => ⟨rfl, hS.F ht⟩) hS.2.2 d B.notSynchronized
theorem me_pa {l : Launch} {D : va_G} {ty : List (ClassId × FieldType)} {y : MethodName} {cc : ByteArray} {ml : Nat} {rn : String} {rm : Room} {av : List Value} {W0 : va_W} {lo : List (Nat × Value)} {r : Nat} (hy : plainName y.cls = true) (hlen : (lg_sl av).length ≤ ml) (hlo : lv_args 0 av = lo)
    (k : ∀ Γ : KG, KX Γ l rm D ty cc ml y.cls (.code y cc ml (some (.object rn))) → (∀ ws lo pc, decode cc pc = .ok (.areturn, 1) → KW Γ 0 0 ws lo pc [.ref r]) → KW Γ 0 0 W0 lo 0 []) : MPi l y cc ml (some (.object rn)) rm D ty av W0 (.ref r) := by
  refine Met.ofW (cc := cc) (maxL := ml) (ret := some (.object rn)) hy rfl ?_
  intro p e s m args below meth c s₁ B hml hv
  obtain ⟨rfl, hP, hSK, hD0⟩ := hv
  have hl := lv_entry av (n := ml) hlen
  rw [hlo] at hl
  rw [lg_entry_eq]
  refine k (p, l, e, rm, s, m, av.toArray, below, meth, c, _, D, ty, (fun _ => True), (fun _ => False), s.heap, ml) ⟨rfl, rfl, rfl, rfl, rfl, ⟨B.exec, B.bytes, hml, findClass_of_methodNamed B.named, atoms_spec (ws := mws y cc ml (some (.object rn))) B.pre⟩, hSK⟩ ?_ s.heap [] _ hP hD0 va_S.rf hl
  intro ws lo pc d H locs ls hP hD hS hl
  exact W.aret B.exec B.bytes B.returns (Or.inl ⟨_, rfl⟩) (Or.inr ⟨_, rfl⟩) (fun t ht hW => ⟨rfl, hS.F ht⟩) hS.2.2 d B.notSynchronized
theorem me_e {l : Launch} {D : va_G} {ty : List (ClassId × FieldType)} {y : MethodName} {cc : ByteArray} {ml : Nat} {rt : FieldType} {rm : Room} {av : List Value} {W0 W1 : va_W} {lo : List (Nat × Value)} {r : Int32} (hy : plainName y.cls = true) (hlen : (lg_sl av).length ≤ ml) (hlo : lv_args 0 av = lo)
    (k : ∀ Γ : KG, KX Γ l rm D ty cc ml y.cls (.code y cc ml (some rt)) → KE Γ → (∀ lo pc, narrow rt (.int r) = .int r → decode cc pc = .ok (.ireturn, 1) → KW Γ 0 0 W1 lo pc [.int r]) → KW Γ 0 0 W0 lo 0 []) : MEq l y cc ml (some rt) rm D ty av W0 W1 (some (.int r)) := by
  intro sz
  refine Met.ofW (cc := cc) (maxL := ml) (ret := some rt) hy rfl ?_
  intro p e s m args below meth c s₁ B hml hv
  obtain ⟨rfl, hsz, hP, hSK, hD0⟩ := hv
  subst hsz
  have hl := lv_entry av (n := ml) hlen
  rw [hlo] at hl
  rw [lg_entry_eq]
  refine k (p, l, e, rm, s, m, av.toArray, below, meth, c, _, D, ty, va_A W0 s.heap.size, va_A W0 s.heap.size, s.heap, ml) ⟨rfl, rfl, rfl, rfl, rfl, ⟨B.exec, B.bytes, hml, findClass_of_methodNamed B.named, atoms_spec (ws := mws y cc ml (some rt)) B.pre⟩, hSK⟩ ⟨rfl, fun q h => Or.inr h⟩ ?_ s.heap [] _ hP hD0.self va_S.rf hl
  intro lo pc hn d H locs ls hP hD hS hl
  exact W.zret B.exec B.bytes B.returns hn (fun t ht hW => ⟨⟨rfl, by rw [ht]; exact hP, hD⟩, hS.F ht⟩) hS.2.2 d B.notSynchronized
theorem me_v {l : Launch} {D : va_G} {ty : List (ClassId × FieldType)} {y : MethodName} {cc : ByteArray} {ml : Nat} {rm : Room} {av : List Value} {W0 W1 : va_W} {lo : List (Nat × Value)} (hy : plainName y.cls = true) (hlen : (lg_sl av).length ≤ ml) (hlo : lv_args 0 av = lo)
    (k : ∀ Γ : KG, KX Γ l rm D ty cc ml y.cls (.code y cc ml none) → KE Γ → (∀ lo pc, decode cc pc = .ok (.return_, 1) → KW Γ 0 0 W1 lo pc []) → KW Γ 0 0 W0 lo 0 []) : MEq l y cc ml none rm D ty av W0 W1 none := by
  intro sz
  refine Met.ofW (cc := cc) (maxL := ml) (ret := none) hy rfl ?_
  intro p e s m args below meth c s₁ B hml hv
  obtain ⟨rfl, hsz, hP, hSK, hD0⟩ := hv
  subst hsz
  have hl := lv_entry av (n := ml) hlen
  rw [hlo] at hl
  rw [lg_entry_eq]
  refine k (p, l, e, rm, s, m, av.toArray, below, meth, c, _, D, ty, va_A W0 s.heap.size, va_A W0 s.heap.size, s.heap, ml) ⟨rfl, rfl, rfl, rfl, rfl, ⟨B.exec, B.bytes, hml, findClass_of_methodNamed B.named, atoms_spec (ws := mws y cc ml none) B.pre⟩, hSK⟩ ⟨rfl, fun q h => Or.inr h⟩ ?_ s.heap [] _ hP hD0.self va_S.rf hl
  intro lo pc d H locs ls hP hD hS hl
  exact W.vret B.exec B.bytes B.returns (fun t ht hW => ⟨⟨rfl, by rw [ht]; exact hP, hD⟩, hS.F ht⟩) hS.2.2 d B.notSynchronized
theorem me_n {l : Launch} {D : va_G} {ty : List (ClassId × FieldType)} {y : MethodName} {cc : ByteArray} {ml : Nat} {rm : Room} {av : List Value} {W0 : va_W} {W1 : (Nat → Nat) → va_W} {mc ms : Nat} {lo : List (Nat × Value)} (hy : plainName y.cls = true) (hyn : y.name = "<init>") (hlen : (lg_sl av).length ≤ ml) (hlo : lv_args 0 av = lo)
    (k : ∀ Γ : KG, KX Γ l rm D ty cc ml y.cls (.code y cc ml none) → KE Γ → KN Γ → (∀ a lo pc, decode cc pc = .ok (.return_, 1) → KW Γ mc ms (W1 a) lo pc []) → KW Γ 0 0 W0 lo 0 []) : MNq l y cc ml none rm D ty av W0 W1 mc ms := by
  intro sz
  refine Met.ofW (cc := cc) (maxL := ml) (ret := none) hy rfl ?_
  intro p e s m args below meth c s₁ B hml hv
  obtain ⟨rfl, hsz, hP, hSK, hD0⟩ := hv
  subst hsz
  have hl := lv_entry av (n := ml) hlen
  rw [hlo] at hl
  rw [lg_entry_eq]
  have hin : meth.name = "<init>" := (name_of_methodNamed B.named B.method).1.trans hyn
  refine k (p, l, e, rm, s, m, av.toArray, below, meth, c, _, D, ty, va_A W0 s.heap.size, va_A W0 s.heap.size, s.heap, ml) ⟨rfl, rfl, rfl, rfl, rfl, ⟨B.exec, B.bytes, hml, findClass_of_methodNamed B.named, atoms_spec (ws := mws y cc ml none) B.pre⟩, hSK⟩ ⟨rfl, fun q h => Or.inr h⟩ hin ?_ s.heap [] _ hP hD0.self va_S.rf hl
  intro a lo pc d H locs ls hP hD hS hl
  exact W.vret B.exec B.bytes B.returns (fun t ht hW => ⟨⟨rfl, a, by rw [ht]; exact hP, hD⟩, hS.F ht⟩) hS.2.2 d B.notSynchronized
def imin (x y : Int32) : Int32 := if y < x then y else x
def imax (x y : Int32) : Int32 := if x < y then y else x
section KR
variable {Γ : KG} {l : Launch} {rm : Room} {D : va_G} {ty : List (ClassId × FieldType)} {cc : ByteArray} {nL : Nat} {own : String} {w0 : Cond}
variable {n z pc tgt : Nat} {ws ws' : va_W} {lo lo' : List (Nat × Value)} {st : List Value}
theorem kw_iconst (X : KX Γ l rm D ty cc nL own w0) {k : Int} {v : Int32} (d : decode cc pc = .ok (.iconst k, 1)) (hv : Int32.ofInt k = v)
    (kk : KW Γ n z ws lo (pc + 1) (.int v :: st)) : KW Γ n z ws lo pc (st) := by
  obtain ⟨p, l', e, R, s, m, args, below, meth, c, Q, D', ty', AD, A, H0, nL'⟩ := Γ
  obtain ⟨rfl, rfl, rfl, rfl, rfl, ⟨hx, hb, hml, hown, hts⟩, hSK⟩ := X
  intro H locs ls hP hD hS hl
  exact lv_iconst hx hb d hv (kk H locs ls hP hD hS hl)
theorem kw_bipush (X : KX Γ l rm D ty cc nL own w0) {k : Int} {v : Int32} (d : decode cc pc = .ok (.bipush k, 2)) (hv : (Int8.ofInt k).toInt32 = v)
    (kk : KW Γ n z ws lo (pc + 2) (.int v :: st)) : KW Γ n z ws lo pc (st) := by
  obtain ⟨p, l', e, R, s, m, args, below, meth, c, Q, D', ty', AD, A, H0, nL'⟩ := Γ
  obtain ⟨rfl, rfl, rfl, rfl, rfl, ⟨hx, hb, hml, hown, hts⟩, hSK⟩ := X
  intro H locs ls hP hD hS hl
  exact lv_bipush hx hb d hv (kk H locs ls hP hD hS hl)
theorem kw_sipush (X : KX Γ l rm D ty cc nL own w0) {k : Int} {v : Int32} (d : decode cc pc = .ok (.sipush k, 3)) (hv : (Int16.ofInt k).toInt32 = v)
    (kk : KW Γ n z ws lo (pc + 3) (.int v :: st)) : KW Γ n z ws lo pc (st) := by
  obtain ⟨p, l', e, R, s, m, args, below, meth, c, Q, D', ty', AD, A, H0, nL'⟩ := Γ
  obtain ⟨rfl, rfl, rfl, rfl, rfl, ⟨hx, hb, hml, hown, hts⟩, hSK⟩ := X
  intro H locs ls hP hD hS hl
  exact lv_sipush hx hb d hv (kk H locs ls hP hD hS hl)
theorem kw_ldc (X : KX Γ l rm D ty cc nL own w0) {idx : Nat} {v : Int32} (d : decode cc pc = .ok (.ldc idx, 2)) (hw : Cond.constant own idx v ∈ GW)
    (kk : KW Γ n z ws lo (pc + 2) (.int v :: st)) : KW Γ n z ws lo pc (st) := by
  obtain ⟨p, l', e, R, s, m, args, below, meth, c, Q, D', ty', AD, A, H0, nL'⟩ := Γ
  obtain ⟨rfl, rfl, rfl, rfl, rfl, ⟨hx, hb, hml, hown, hts⟩, hSK⟩ := X
  intro H locs ls hP hD hS hl
  exact lv_ldc hx hb hown (gw_all hts hw) d (kk H locs ls hP hD hS hl)
theorem kw_iload_n (X : KX Γ l rm D ty cc nL own w0) {k : Fin 4} {i : Nat} {x : Int32} (d : decode cc pc = .ok (.iload_n k, 1)) (hi : (k : Nat) = i) (j : Nat) (hj : lo[j]? = some (i, .int x))
    (kk : KW Γ n z ws lo (pc + 1) (.int x :: st)) : KW Γ n z ws lo pc (st) := by
  obtain ⟨p, l', e, R, s, m, args, below, meth, c, Q, D', ty', AD, A, H0, nL'⟩ := Γ
  obtain ⟨rfl, rfl, rfl, rfl, rfl, ⟨hx, hb, hml, hown, hts⟩, hSK⟩ := X
  intro H locs ls hP hD hS hl
  exact lv_iload_n hx hb d hi (lv_at hl j hj) (kk H locs ls hP hD hS hl)
theorem kw_iload (X : KX Γ l rm D ty cc nL own w0) {i : Nat} {x : Int32} (d : decode cc pc = .ok (.iload i, 2)) (j : Nat) (hj : lo[j]? = some (i, .int x))
    (kk : KW Γ n z ws lo (pc + 2) (.int x :: st)) : KW Γ n z ws lo pc (st) := by
  obtain ⟨p, l', e, R, s, m, args, below, meth, c, Q, D', ty', AD, A, H0, nL'⟩ := Γ
  obtain ⟨rfl, rfl, rfl, rfl, rfl, ⟨hx, hb, hml, hown, hts⟩, hSK⟩ := X
  intro H locs ls hP hD hS hl
  exact lv_iload hx hb d (lv_at hl j hj) (kk H locs ls hP hD hS hl)
theorem kw_aload_n (X : KX Γ l rm D ty cc nL own w0) {k : Fin 4} {i : Nat} {x : Nat} (d : decode cc pc = .ok (.aload_n k, 1)) (hi : (k : Nat) = i) (j : Nat) (hj : lo[j]? = some (i, .ref x))
    (kk : KW Γ n z ws lo (pc + 1) (.ref x :: st)) : KW Γ n z ws lo pc (st) := by
  obtain ⟨p, l', e, R, s, m, args, below, meth, c, Q, D', ty', AD, A, H0, nL'⟩ := Γ
  obtain ⟨rfl, rfl, rfl, rfl, rfl, ⟨hx, hb, hml, hown, hts⟩, hSK⟩ := X
  intro H locs ls hP hD hS hl
  exact lv_aload_n hx hb d hi (lv_at hl j hj) (kk H locs ls hP hD hS hl)
theorem kw_aload (X : KX Γ l rm D ty cc nL own w0) {i : Nat} {x : Nat} (d : decode cc pc = .ok (.aload i, 2)) (j : Nat) (hj : lo[j]? = some (i, .ref x))
    (kk : KW Γ n z ws lo (pc + 2) (.ref x :: st)) : KW Γ n z ws lo pc (st) := by
  obtain ⟨p, l', e, R, s, m, args, below, meth, c, Q, D', ty', AD, A, H0, nL'⟩ := Γ
  obtain ⟨rfl, rfl, rfl, rfl, rfl, ⟨hx, hb, hml, hown, hts⟩, hSK⟩ := X
  intro H locs ls hP hD hS hl
  exact lv_aload hx hb d (lv_at hl j hj) (kk H locs ls hP hD hS hl)
theorem kw_istore_n (X : KX Γ l rm D ty cc nL own w0) {k : Fin 4} {i : Nat} {x : Int32} (d : decode cc pc = .ok (.istore_n k, 1)) (hi : (k : Nat) = i) (hn : i < nL) (ks : List Nat) (hk : lv_pick ((i, Value.int x) :: lo.filter (fun q => !(q.1 == i) && !(q.1 + 1 == i && q.2.category == 2))) ks = lo')
    (kk : KW Γ n z ws lo' (pc + 1) st) : KW Γ n z ws lo pc (.int x :: st) := by
  obtain ⟨p, l', e, R, s, m, args, below, meth, c, Q, D', ty', AD, A, H0, nL'⟩ := Γ
  obtain ⟨rfl, rfl, rfl, rfl, rfl, ⟨hx, hb, hml, hown, hts⟩, hSK⟩ := X
  intro H locs ls hP hD hS hl
  exact lv_istore_n hx hb d hi hl hn rfl (fun ls' hl' => kk H locs ls' hP hD hS (lv_sub hl' ks hk))
theorem kw_istore (X : KX Γ l rm D ty cc nL own w0) {i : Nat} {x : Int32} (d : decode cc pc = .ok (.istore i, 2)) (hn : i < nL) (ks : List Nat) (hk : lv_pick ((i, Value.int x) :: lo.filter (fun q => !(q.1 == i) && !(q.1 + 1 == i && q.2.category == 2))) ks = lo')
    (kk : KW Γ n z ws lo' (pc + 2) st) : KW Γ n z ws lo pc (.int x :: st) := by
  obtain ⟨p, l', e, R, s, m, args, below, meth, c, Q, D', ty', AD, A, H0, nL'⟩ := Γ
  obtain ⟨rfl, rfl, rfl, rfl, rfl, ⟨hx, hb, hml, hown, hts⟩, hSK⟩ := X
  intro H locs ls hP hD hS hl
  exact lv_istore hx hb d hl hn rfl (fun ls' hl' => kk H locs ls' hP hD hS (lv_sub hl' ks hk))
theorem kw_astore_n (X : KX Γ l rm D ty cc nL own w0) {k : Fin 4} {i : Nat} {x : Nat} (d : decode cc pc = .ok (.astore_n k, 1)) (hi : (k : Nat) = i) (hn : i < nL) (ks : List Nat) (hk : lv_pick ((i, Value.ref x) :: lo.filter (fun q => !(q.1 == i) && !(q.1 + 1 == i && q.2.category == 2))) ks = lo')
    (kk : KW Γ n z ws lo' (pc + 1) st) : KW Γ n z ws lo pc (.ref x :: st) := by
  obtain ⟨p, l', e, R, s, m, args, below, meth, c, Q, D', ty', AD, A, H0, nL'⟩ := Γ
  obtain ⟨rfl, rfl, rfl, rfl, rfl, ⟨hx, hb, hml, hown, hts⟩, hSK⟩ := X
  intro H locs ls hP hD hS hl
  exact lv_astore_n hx hb d hi hl hn rfl (fun ls' hl' => kk H locs ls' hP hD hS (lv_sub hl' ks hk))
theorem kw_astore (X : KX Γ l rm D ty cc nL own w0) {i : Nat} {x : Nat} (d : decode cc pc = .ok (.astore i, 2)) (hn : i < nL) (ks : List Nat) (hk : lv_pick ((i, Value.ref x) :: lo.filter (fun q => !(q.1 == i) && !(q.1 + 1 == i && q.2.category == 2))) ks = lo')
    (kk : KW Γ n z ws lo' (pc + 2) st) : KW Γ n z ws lo pc (.ref x :: st) := by
  obtain ⟨p, l', e, R, s, m, args, below, meth, c, Q, D', ty', AD, A, H0, nL'⟩ := Γ
  obtain ⟨rfl, rfl, rfl, rfl, rfl, ⟨hx, hb, hml, hown, hts⟩, hSK⟩ := X
  intro H locs ls hP hD hS hl
  exact lv_astore hx hb d hl hn rfl (fun ls' hl' => kk H locs ls' hP hD hS (lv_sub hl' ks hk))
theorem kw_iinc (X : KX Γ l rm D ty cc nL own w0) {i : Nat} {q : Int} {x v : Int32} (d : decode cc pc = .ok (.iinc i q, 3)) (j : Nat) (hj : lo[j]? = some (i, .int x)) (hv : x + Int32.ofInt q = v) (hn : i < nL) (ks : List Nat) (hk : lv_pick ((i, Value.int v) :: lo.filter (fun q => !(q.1 == i) && !(q.1 + 1 == i && q.2.category == 2))) ks = lo')
    (kk : KW Γ n z ws lo' (pc + 3) st) : KW Γ n z ws lo pc (st) := by
  obtain ⟨p, l', e, R, s, m, args, below, meth, c, Q, D', ty', AD, A, H0, nL'⟩ := Γ
  obtain ⟨rfl, rfl, rfl, rfl, rfl, ⟨hx, hb, hml, hown, hts⟩, hSK⟩ := X
  intro H locs ls hP hD hS hl
  exact lv_iinc hx hb d hl hj hv hn rfl (fun ls' hl' => kk H locs ls' hP hD hS (lv_sub hl' ks hk))
theorem kw_loc (ks : List Nat) (hk : lv_pick lo ks = lo') (kk : KW Γ n z ws lo' pc st) : KW Γ n z ws lo pc st := by
  obtain ⟨p, l', e, R, s, m, args, below, meth, c, Q, D', ty', AD, A, H0, nL'⟩ := Γ
  intro H locs ls hP hD hS hl
  exact kk H locs ls hP hD hS (lv_sub hl ks hk)
theorem kw_sub (is : List Nat) (hn : va_nd is = true) (hk : is.map (fun i => ws[i]?) = ws'.map some) (kk : KW Γ n z ws' lo pc st) : KW Γ n z ws lo pc st := by
  obtain ⟨p, l', e, R, s, m, args, below, meth, c, Q, D', ty', AD, A, H0, nL'⟩ := Γ
  intro H locs ls hP hD hS hl
  have hk2 : is.filterMap (fun i => ws[i]?) = ws' := by
    have h := congrArg (fun l => l.filterMap id) hk
    simpa [List.filterMap_map, Function.comp_def] using h
  exact kk H locs ls (hP.sub is hk2) (hD.sub is hn hk) hS hl
theorem kw_widen {n' z' : Nat} (h1 : n ≤ n') (h2 : z ≤ z') (kk : KW Γ n' z' ws lo pc st) : KW Γ n z ws lo pc st := by
  obtain ⟨p, l', e, R, s, m, args, below, meth, c, Q, D', ty', AD, A, H0, nL'⟩ := Γ
  intro H locs ls hP hD hS hl
  exact W.widen h1 h2 (kk H locs ls hP hD hS hl)
theorem kw_iadd (X : KX Γ l rm D ty cc nL own w0) {x y : Int32} (d : decode cc pc = .ok (.iadd, 1))
    (kk : KW Γ n z ws lo (pc + 1) (.int (x + y) :: st)) : KW Γ n z ws lo pc (.int y :: .int x :: st) := by
  obtain ⟨p, l', e, R, s, m, args, below, meth, c, Q, D', ty', AD, A, H0, nL'⟩ := Γ
  obtain ⟨rfl, rfl, rfl, rfl, rfl, ⟨hx, hb, hml, hown, hts⟩, hSK⟩ := X
  intro H locs ls hP hD hS hl
  exact lv_iadd hx hb d (kk H locs ls hP hD hS hl)
theorem kw_isub (X : KX Γ l rm D ty cc nL own w0) {x y : Int32} (d : decode cc pc = .ok (.isub, 1))
    (kk : KW Γ n z ws lo (pc + 1) (.int (x - y) :: st)) : KW Γ n z ws lo pc (.int y :: .int x :: st) := by
  obtain ⟨p, l', e, R, s, m, args, below, meth, c, Q, D', ty', AD, A, H0, nL'⟩ := Γ
  obtain ⟨rfl, rfl, rfl, rfl, rfl, ⟨hx, hb, hml, hown, hts⟩, hSK⟩ := X
  intro H locs ls hP hD hS hl
  exact lv_isub hx hb d (kk H locs ls hP hD hS hl)
theorem kw_imul (X : KX Γ l rm D ty cc nL own w0) {x y : Int32} (d : decode cc pc = .ok (.imul, 1))
    (kk : KW Γ n z ws lo (pc + 1) (.int (x * y) :: st)) : KW Γ n z ws lo pc (.int y :: .int x :: st) := by
  obtain ⟨p, l', e, R, s, m, args, below, meth, c, Q, D', ty', AD, A, H0, nL'⟩ := Γ
  obtain ⟨rfl, rfl, rfl, rfl, rfl, ⟨hx, hb, hml, hown, hts⟩, hSK⟩ := X
  intro H locs ls hP hD hS hl
  exact lv_imul hx hb d (kk H locs ls hP hD hS hl)
theorem kw_iand (X : KX Γ l rm D ty cc nL own w0) {x y : Int32} (d : decode cc pc = .ok (.iand, 1))
    (kk : KW Γ n z ws lo (pc + 1) (.int (x &&& y) :: st)) : KW Γ n z ws lo pc (.int y :: .int x :: st) := by
  obtain ⟨p, l', e, R, s, m, args, below, meth, c, Q, D', ty', AD, A, H0, nL'⟩ := Γ
  obtain ⟨rfl, rfl, rfl, rfl, rfl, ⟨hx, hb, hml, hown, hts⟩, hSK⟩ := X
  intro H locs ls hP hD hS hl
  exact lv_iand hx hb d (kk H locs ls hP hD hS hl)
theorem kw_ior (X : KX Γ l rm D ty cc nL own w0) {x y : Int32} (d : decode cc pc = .ok (.ior, 1))
    (kk : KW Γ n z ws lo (pc + 1) (.int (x ||| y) :: st)) : KW Γ n z ws lo pc (.int y :: .int x :: st) := by
  obtain ⟨p, l', e, R, s, m, args, below, meth, c, Q, D', ty', AD, A, H0, nL'⟩ := Γ
  obtain ⟨rfl, rfl, rfl, rfl, rfl, ⟨hx, hb, hml, hown, hts⟩, hSK⟩ := X
  intro H locs ls hP hD hS hl
  exact lv_ior hx hb d (kk H locs ls hP hD hS hl)
theorem kw_ishl (X : KX Γ l rm D ty cc nL own w0) {x y : Int32} (d : decode cc pc = .ok (.ishl, 1))
    (kk : KW Γ n z ws lo (pc + 1) (.int (x <<< (y &&& 31)) :: st)) : KW Γ n z ws lo pc (.int y :: .int x :: st) := by
  obtain ⟨p, l', e, R, s, m, args, below, meth, c, Q, D', ty', AD, A, H0, nL'⟩ := Γ
  obtain ⟨rfl, rfl, rfl, rfl, rfl, ⟨hx, hb, hml, hown, hts⟩, hSK⟩ := X
  intro H locs ls hP hD hS hl
  exact lv_ishl hx hb d (kk H locs ls hP hD hS hl)
theorem kw_idiv (X : KX Γ l rm D ty cc nL own w0) {x y : Int32} (d : decode cc pc = .ok (.idiv, 1)) (hne : ¬ y = 0)
    (kk : KW Γ n z ws lo (pc + 1) (.int (x / y) :: st)) : KW Γ n z ws lo pc (.int y :: .int x :: st) := by
  obtain ⟨p, l', e, R, s, m, args, below, meth, c, Q, D', ty', AD, A, H0, nL'⟩ := Γ
  obtain ⟨rfl, rfl, rfl, rfl, rfl, ⟨hx, hb, hml, hown, hts⟩, hSK⟩ := X
  intro H locs ls hP hD hS hl
  exact lv_idiv hx hb d hne (kk H locs ls hP hD hS hl)
theorem kw_irem (X : KX Γ l rm D ty cc nL own w0) {x y : Int32} (d : decode cc pc = .ok (.irem, 1)) (hne : ¬ y = 0)
    (kk : KW Γ n z ws lo (pc + 1) (.int (x - x / y * y) :: st)) : KW Γ n z ws lo pc (.int y :: .int x :: st) := by
  obtain ⟨p, l', e, R, s, m, args, below, meth, c, Q, D', ty', AD, A, H0, nL'⟩ := Γ
  obtain ⟨rfl, rfl, rfl, rfl, rfl, ⟨hx, hb, hml, hown, hts⟩, hSK⟩ := X
  intro H locs ls hP hD hS hl
  exact lv_irem hx hb d hne (kk H locs ls hP hD hS hl)
theorem kw_i2c (X : KX Γ l rm D ty cc nL own w0) {x v : Int32} (d : decode cc pc = .ok (.i2c, 1)) (hv : (x.toUInt32 % 65536).toInt32 = v)
    (kk : KW Γ n z ws lo (pc + 1) (.int v :: st)) : KW Γ n z ws lo pc (.int x :: st) := by
  obtain ⟨p, l', e, R, s, m, args, below, meth, c, Q, D', ty', AD, A, H0, nL'⟩ := Γ
  obtain ⟨rfl, rfl, rfl, rfl, rfl, ⟨hx, hb, hml, hown, hts⟩, hSK⟩ := X
  intro H locs ls hP hD hS hl
  exact lv_i2c hx hb d hv (kk H locs ls hP hD hS hl)
theorem kw_dup (X : KX Γ l rm D ty cc nL own w0) {v : Value} (d : decode cc pc = .ok (.dup, 1)) (hv : v.category = 1)
    (kk : KW Γ n z ws lo (pc + 1) (v :: v :: st)) : KW Γ n z ws lo pc (v :: st) := by
  obtain ⟨p, l', e, R, s, m, args, below, meth, c, Q, D', ty', AD, A, H0, nL'⟩ := Γ
  obtain ⟨rfl, rfl, rfl, rfl, rfl, ⟨hx, hb, hml, hown, hts⟩, hSK⟩ := X
  intro H locs ls hP hD hS hl
  exact lv_dup hx hb d hv (kk H locs ls hP hD hS hl)
theorem kw_dup2 (X : KX Γ l rm D ty cc nL own w0) {v w : Value} (d : decode cc pc = .ok (.dup2, 1)) (hv : v.category = 1) (hw : w.category = 1)
    (kk : KW Γ n z ws lo (pc + 1) (v :: w :: v :: w :: st)) : KW Γ n z ws lo pc (v :: w :: st) := by
  obtain ⟨p, l', e, R, s, m, args, below, meth, c, Q, D', ty', AD, A, H0, nL'⟩ := Γ
  obtain ⟨rfl, rfl, rfl, rfl, rfl, ⟨hx, hb, hml, hown, hts⟩, hSK⟩ := X
  intro H locs ls hP hD hS hl
  exact lv_dup2_11 hx hb d hv hw (kk H locs ls hP hD hS hl)
theorem kw_pop (X : KX Γ l rm D ty cc nL own w0) {v : Value} (d : decode cc pc = .ok (.pop, 1)) (hv : v.category = 1)
    (kk : KW Γ n z ws lo (pc + 1) st) : KW Γ n z ws lo pc (v :: st) := by
  obtain ⟨p, l', e, R, s, m, args, below, meth, c, Q, D', ty', AD, A, H0, nL'⟩ := Γ
  obtain ⟨rfl, rfl, rfl, rfl, rfl, ⟨hx, hb, hml, hown, hts⟩, hSK⟩ := X
  intro H locs ls hP hD hS hl
  exact lv_pop hx hb d hv (kk H locs ls hP hD hS hl)
theorem kw_null (X : KX Γ l rm D ty cc nL own w0) (d : decode cc pc = .ok (.aconst_null, 1))
    (kk : KW Γ n z ws lo (pc + 1) (.null :: st)) : KW Γ n z ws lo pc (st) := by
  obtain ⟨p, l', e, R, s, m, args, below, meth, c, Q, D', ty', AD, A, H0, nL'⟩ := Γ
  obtain ⟨rfl, rfl, rfl, rfl, rfl, ⟨hx, hb, hml, hown, hts⟩, hSK⟩ := X
  intro H locs ls hP hD hS hl
  exact lv_null hx hb d (kk H locs ls hP hD hS hl)
theorem kw_icmp_eq (X : KX Γ l rm D ty cc nL own w0) {x y : Int32} {off : Int} (tgt : Nat) (d : decode cc pc = .ok (.if_icmp .eq off, 3)) (ht : (pc : Int) + off = (tgt : Int)) (kt : (x = y) → KW Γ n z ws lo tgt st) (kf : ¬ (x = y) → KW Γ n z ws lo (pc + 3) st)
     : KW Γ n z ws lo pc (.int y :: .int x :: st) := by
  obtain ⟨p, l', e, R, s, m, args, below, meth, c, Q, D', ty', AD, A, H0, nL'⟩ := Γ
  obtain ⟨rfl, rfl, rfl, rfl, rfl, ⟨hx, hb, hml, hown, hts⟩, hSK⟩ := X
  intro H locs ls hP hD hS hl
  exact lv_icmp_eq hx hb d ht (fun q => kt q H locs ls hP hD hS hl) (fun q => kf q H locs ls hP hD hS hl)
theorem kw_if_eq (X : KX Γ l rm D ty cc nL own w0) {x : Int32} {off : Int} (tgt : Nat) (d : decode cc pc = .ok (.ifCond .eq off, 3)) (ht : (pc : Int) + off = (tgt : Int)) (kt : (x = 0) → KW Γ n z ws lo tgt st) (kf : ¬ (x = 0) → KW Γ n z ws lo (pc + 3) st)
     : KW Γ n z ws lo pc (.int x :: st) := by
  obtain ⟨p, l', e, R, s, m, args, below, meth, c, Q, D', ty', AD, A, H0, nL'⟩ := Γ
  obtain ⟨rfl, rfl, rfl, rfl, rfl, ⟨hx, hb, hml, hown, hts⟩, hSK⟩ := X
  intro H locs ls hP hD hS hl
  exact lv_if_eq hx hb d ht (fun q => kt q H locs ls hP hD hS hl) (fun q => kf q H locs ls hP hD hS hl)
theorem kw_icmp_ne (X : KX Γ l rm D ty cc nL own w0) {x y : Int32} {off : Int} (tgt : Nat) (d : decode cc pc = .ok (.if_icmp .ne off, 3)) (ht : (pc : Int) + off = (tgt : Int)) (kt : ¬ (x = y) → KW Γ n z ws lo tgt st) (kf : (x = y) → KW Γ n z ws lo (pc + 3) st)
     : KW Γ n z ws lo pc (.int y :: .int x :: st) := by
  obtain ⟨p, l', e, R, s, m, args, below, meth, c, Q, D', ty', AD, A, H0, nL'⟩ := Γ
  obtain ⟨rfl, rfl, rfl, rfl, rfl, ⟨hx, hb, hml, hown, hts⟩, hSK⟩ := X
  intro H locs ls hP hD hS hl
  exact lv_icmp_ne hx hb d ht (fun q => kt q H locs ls hP hD hS hl) (fun q => kf q H locs ls hP hD hS hl)
theorem kw_if_ne (X : KX Γ l rm D ty cc nL own w0) {x : Int32} {off : Int} (tgt : Nat) (d : decode cc pc = .ok (.ifCond .ne off, 3)) (ht : (pc : Int) + off = (tgt : Int)) (kt : ¬ (x = 0) → KW Γ n z ws lo tgt st) (kf : (x = 0) → KW Γ n z ws lo (pc + 3) st)
     : KW Γ n z ws lo pc (.int x :: st) := by
  obtain ⟨p, l', e, R, s, m, args, below, meth, c, Q, D', ty', AD, A, H0, nL'⟩ := Γ
  obtain ⟨rfl, rfl, rfl, rfl, rfl, ⟨hx, hb, hml, hown, hts⟩, hSK⟩ := X
  intro H locs ls hP hD hS hl
  exact lv_if_ne hx hb d ht (fun q => kt q H locs ls hP hD hS hl) (fun q => kf q H locs ls hP hD hS hl)
theorem kw_icmp_lt (X : KX Γ l rm D ty cc nL own w0) {x y : Int32} {off : Int} (tgt : Nat) (d : decode cc pc = .ok (.if_icmp .lt off, 3)) (ht : (pc : Int) + off = (tgt : Int)) (kt : (x < y) → KW Γ n z ws lo tgt st) (kf : ¬ (x < y) → KW Γ n z ws lo (pc + 3) st)
     : KW Γ n z ws lo pc (.int y :: .int x :: st) := by
  obtain ⟨p, l', e, R, s, m, args, below, meth, c, Q, D', ty', AD, A, H0, nL'⟩ := Γ
  obtain ⟨rfl, rfl, rfl, rfl, rfl, ⟨hx, hb, hml, hown, hts⟩, hSK⟩ := X
  intro H locs ls hP hD hS hl
  exact lv_icmp_lt hx hb d ht (fun q => kt q H locs ls hP hD hS hl) (fun q => kf q H locs ls hP hD hS hl)
theorem kw_if_lt (X : KX Γ l rm D ty cc nL own w0) {x : Int32} {off : Int} (tgt : Nat) (d : decode cc pc = .ok (.ifCond .lt off, 3)) (ht : (pc : Int) + off = (tgt : Int)) (kt : (x < 0) → KW Γ n z ws lo tgt st) (kf : ¬ (x < 0) → KW Γ n z ws lo (pc + 3) st)
     : KW Γ n z ws lo pc (.int x :: st) := by
  obtain ⟨p, l', e, R, s, m, args, below, meth, c, Q, D', ty', AD, A, H0, nL'⟩ := Γ
  obtain ⟨rfl, rfl, rfl, rfl, rfl, ⟨hx, hb, hml, hown, hts⟩, hSK⟩ := X
  intro H locs ls hP hD hS hl
  exact lv_if_lt hx hb d ht (fun q => kt q H locs ls hP hD hS hl) (fun q => kf q H locs ls hP hD hS hl)
theorem kw_icmp_ge (X : KX Γ l rm D ty cc nL own w0) {x y : Int32} {off : Int} (tgt : Nat) (d : decode cc pc = .ok (.if_icmp .ge off, 3)) (ht : (pc : Int) + off = (tgt : Int)) (kt : ¬ (x < y) → KW Γ n z ws lo tgt st) (kf : (x < y) → KW Γ n z ws lo (pc + 3) st)
     : KW Γ n z ws lo pc (.int y :: .int x :: st) := by
  obtain ⟨p, l', e, R, s, m, args, below, meth, c, Q, D', ty', AD, A, H0, nL'⟩ := Γ
  obtain ⟨rfl, rfl, rfl, rfl, rfl, ⟨hx, hb, hml, hown, hts⟩, hSK⟩ := X
  intro H locs ls hP hD hS hl
  exact lv_icmp_ge hx hb d ht (fun q => kt (Int32.not_lt.mpr q) H locs ls hP hD hS hl) (fun q => kf (Int32.not_le.mp q) H locs ls hP hD hS hl)
theorem kw_if_ge (X : KX Γ l rm D ty cc nL own w0) {x : Int32} {off : Int} (tgt : Nat) (d : decode cc pc = .ok (.ifCond .ge off, 3)) (ht : (pc : Int) + off = (tgt : Int)) (kt : ¬ (x < 0) → KW Γ n z ws lo tgt st) (kf : (x < 0) → KW Γ n z ws lo (pc + 3) st)
     : KW Γ n z ws lo pc (.int x :: st) := by
  obtain ⟨p, l', e, R, s, m, args, below, meth, c, Q, D', ty', AD, A, H0, nL'⟩ := Γ
  obtain ⟨rfl, rfl, rfl, rfl, rfl, ⟨hx, hb, hml, hown, hts⟩, hSK⟩ := X
  intro H locs ls hP hD hS hl
  exact lv_if_ge hx hb d ht (fun q => kt (Int32.not_lt.mpr q) H locs ls hP hD hS hl) (fun q => kf (Int32.not_le.mp q) H locs ls hP hD hS hl)
theorem kw_icmp_gt (X : KX Γ l rm D ty cc nL own w0) {x y : Int32} {off : Int} (tgt : Nat) (d : decode cc pc = .ok (.if_icmp .gt off, 3)) (ht : (pc : Int) + off = (tgt : Int)) (kt : (y < x) → KW Γ n z ws lo tgt st) (kf : ¬ (y < x) → KW Γ n z ws lo (pc + 3) st)
     : KW Γ n z ws lo pc (.int y :: .int x :: st) := by
  obtain ⟨p, l', e, R, s, m, args, below, meth, c, Q, D', ty', AD, A, H0, nL'⟩ := Γ
  obtain ⟨rfl, rfl, rfl, rfl, rfl, ⟨hx, hb, hml, hown, hts⟩, hSK⟩ := X
  intro H locs ls hP hD hS hl
  exact lv_icmp_gt hx hb d ht (fun q => kt q H locs ls hP hD hS hl) (fun q => kf q H locs ls hP hD hS hl)
theorem kw_if_gt (X : KX Γ l rm D ty cc nL own w0) {x : Int32} {off : Int} (tgt : Nat) (d : decode cc pc = .ok (.ifCond .gt off, 3)) (ht : (pc : Int) + off = (tgt : Int)) (kt : (0 < x) → KW Γ n z ws lo tgt st) (kf : ¬ (0 < x) → KW Γ n z ws lo (pc + 3) st)
     : KW Γ n z ws lo pc (.int x :: st) := by
  obtain ⟨p, l', e, R, s, m, args, below, meth, c, Q, D', ty', AD, A, H0, nL'⟩ := Γ
  obtain ⟨rfl, rfl, rfl, rfl, rfl, ⟨hx, hb, hml, hown, hts⟩, hSK⟩ := X
  intro H locs ls hP hD hS hl
  exact lv_if_gt hx hb d ht (fun q => kt q H locs ls hP hD hS hl) (fun q => kf q H locs ls hP hD hS hl)
theorem kw_icmp_le (X : KX Γ l rm D ty cc nL own w0) {x y : Int32} {off : Int} (tgt : Nat) (d : decode cc pc = .ok (.if_icmp .le off, 3)) (ht : (pc : Int) + off = (tgt : Int)) (kt : ¬ (y < x) → KW Γ n z ws lo tgt st) (kf : (y < x) → KW Γ n z ws lo (pc + 3) st)
     : KW Γ n z ws lo pc (.int y :: .int x :: st) := by
  obtain ⟨p, l', e, R, s, m, args, below, meth, c, Q, D', ty', AD, A, H0, nL'⟩ := Γ
  obtain ⟨rfl, rfl, rfl, rfl, rfl, ⟨hx, hb, hml, hown, hts⟩, hSK⟩ := X
  intro H locs ls hP hD hS hl
  exact lv_icmp_le hx hb d ht (fun q => kt (Int32.not_lt.mpr q) H locs ls hP hD hS hl) (fun q => kf (Int32.not_le.mp q) H locs ls hP hD hS hl)
theorem kw_if_le (X : KX Γ l rm D ty cc nL own w0) {x : Int32} {off : Int} (tgt : Nat) (d : decode cc pc = .ok (.ifCond .le off, 3)) (ht : (pc : Int) + off = (tgt : Int)) (kt : ¬ (0 < x) → KW Γ n z ws lo tgt st) (kf : (0 < x) → KW Γ n z ws lo (pc + 3) st)
     : KW Γ n z ws lo pc (.int x :: st) := by
  obtain ⟨p, l', e, R, s, m, args, below, meth, c, Q, D', ty', AD, A, H0, nL'⟩ := Γ
  obtain ⟨rfl, rfl, rfl, rfl, rfl, ⟨hx, hb, hml, hown, hts⟩, hSK⟩ := X
  intro H locs ls hP hD hS hl
  exact lv_if_le hx hb d ht (fun q => kt (Int32.not_lt.mpr q) H locs ls hP hD hS hl) (fun q => kf (Int32.not_le.mp q) H locs ls hP hD hS hl)
theorem kw_goto (X : KX Γ l rm D ty cc nL own w0) {off : Int} (tgt : Nat) (d : decode cc pc = .ok (.goto off, 3)) (ht : (pc : Int) + off = (tgt : Int))
    (kk : KW Γ n z ws lo tgt st) : KW Γ n z ws lo pc (st) := by
  obtain ⟨p, l', e, R, s, m, args, below, meth, c, Q, D', ty', AD, A, H0, nL'⟩ := Γ
  obtain ⟨rfl, rfl, rfl, rfl, rfl, ⟨hx, hb, hml, hown, hts⟩, hSK⟩ := X
  intro H locs ls hP hD hS hl
  exact lv_goto hx hb d ht (kk H locs ls hP hD hS hl)
theorem kw_ifnull (X : KX Γ l rm D ty cc nL own w0) {x : Nat} {off : Int} (d : decode cc pc = .ok (.ifnull off, 3))
    (kk : KW Γ n z ws lo (pc + 3) st) : KW Γ n z ws lo pc (.ref x :: st) := by
  obtain ⟨p, l', e, R, s, m, args, below, meth, c, Q, D', ty', AD, A, H0, nL'⟩ := Γ
  obtain ⟨rfl, rfl, rfl, rfl, rfl, ⟨hx, hb, hml, hown, hts⟩, hSK⟩ := X
  intro H locs ls hP hD hS hl
  exact lv_ifnull hx hb d (kk H locs ls hP hD hS hl)
theorem kw_ifnullN (X : KX Γ l rm D ty cc nL own w0) {off : Int} (tgt : Nat) (d : decode cc pc = .ok (.ifnull off, 3)) (ht : (pc : Int) + off = (tgt : Int))
    (kk : KW Γ n z ws lo tgt st) : KW Γ n z ws lo pc (.null :: st) := by
  obtain ⟨p, l', e, R, s, m, args, below, meth, c, Q, D', ty', AD, A, H0, nL'⟩ := Γ
  obtain ⟨rfl, rfl, rfl, rfl, rfl, ⟨hx, hb, hml, hown, hts⟩, hSK⟩ := X
  intro H locs ls hP hD hS hl
  exact lv_ifnullN hx hb d ht (kk H locs ls hP hD hS hl)
theorem kw_tblOut (X : KX Γ l rm D ty cc nL own w0) {dflt lo1 hi : Int} {offs : Array Int} {len : Nat} {x : Int32} (tgt : Nat) (d : decode cc pc = .ok (.tableswitch dflt lo1 hi offs, len)) (h : x.toInt < lo1 ∨ hi < x.toInt) (ht : (pc : Int) + dflt = (tgt : Int))
    (kk : KW Γ n z ws lo tgt st) : KW Γ n z ws lo pc (.int x :: st) := by
  obtain ⟨p, l', e, R, s, m, args, below, meth, c, Q, D', ty', AD, A, H0, nL'⟩ := Γ
  obtain ⟨rfl, rfl, rfl, rfl, rfl, ⟨hx, hb, hml, hown, hts⟩, hSK⟩ := X
  intro H locs ls hP hD hS hl
  exact lv_tableOut hx hb d h ht (kk H locs ls hP hD hS hl)
theorem kw_tblIn (X : KX Γ l rm D ty cc nL own w0) {dflt lo1 hi : Int} {offs : Array Int} {len : Nat} {x : Int32} {off : Int} (tgt : Nat) (d : decode cc pc = .ok (.tableswitch dflt lo1 hi offs, len)) (h1 : ¬ x.toInt < lo1) (h2 : ¬ hi < x.toInt) (ho : offs[(x.toInt - lo1).toNat]? = some off) (ht : (pc : Int) + off = (tgt : Int))
    (kk : KW Γ n z ws lo tgt st) : KW Γ n z ws lo pc (.int x :: st) := by
  obtain ⟨p, l', e, R, s, m, args, below, meth, c, Q, D', ty', AD, A, H0, nL'⟩ := Γ
  obtain ⟨rfl, rfl, rfl, rfl, rfl, ⟨hx, hb, hml, hown, hts⟩, hSK⟩ := X
  intro H locs ls hP hD hS hl
  exact lv_tableIn hx hb d h1 h2 ho ht (kk H locs ls hP hD hS hl)
theorem kw_lookup (X : KX Γ l rm D ty cc nL own w0) {dflt : Int} {ps : Array (Int × Int)} {len : Nat} {x : Int32} {off : Int} (tgt : Nat) (d : decode cc pc = .ok (.lookupswitch dflt ps, len)) (hp : (ps.toList.zip (ps.toList.drop 1)).all (fun (a, next) => a.1 < next.1) = true) (ho : Op.lookupswitch.offset ps.toList dflt x.toInt = off) (ht : (pc : Int) + off = (tgt : Int))
    (kk : KW Γ n z ws lo tgt st) : KW Γ n z ws lo pc (.int x :: st) := by
  obtain ⟨p, l', e, R, s, m, args, below, meth, c, Q, D', ty', AD, A, H0, nL'⟩ := Γ
  obtain ⟨rfl, rfl, rfl, rfl, rfl, ⟨hx, hb, hml, hown, hts⟩, hSK⟩ := X
  intro H locs ls hP hD hS hl
  exact lv_lookup hx hb d hp ho ht (kk H locs ls hP hD hS hl)
theorem kw_mmin (X : KX Γ l rm D ty cc nL own w0) {x y : Int32} {idx : Nat} (hlk : Cond.methodLink own idx Lib.Math.min.name ∈ GW) (hst : Cond.static Lib.Math.min.name ∈ GW) (hin : Cond.initialized "java/lang/Math" ∈ GW) (hcd : Cond.code Lib.Math.min.name Lib.Math.min.code 2 (some .int) ∈ GW) (hR : 1 ≤ rm.frames ∧ (st.map fun v => v.category).sum + 13 ≤ rm.locals) (hnz : n ≤ rm.cells ∧ z ≤ rm.slots) (d : decode cc pc = .ok (.invokestatic idx, 3))
    (kk : KW Γ n z ws lo (pc + 3) (.int (imin x y) :: st)) : KW Γ n z ws lo pc (.int y :: .int x :: st) := by
  obtain ⟨p, l', e, R, s, m, args, below, meth, c, Q, D', ty', AD, A, H0, nL'⟩ := Γ
  obtain ⟨rfl, rfl, rfl, rfl, rfl, ⟨hx, hb, hml, hown, hts⟩, hSK⟩ := X
  intro H locs ls hP hD hS hl
  exact va_mmin hx hb (hml.trans hl.1.symm) hown (gw_all hts hlk) (gw_all hts hst) (gw_all hts hin) (gw_all hts hcd) hR.1 hR.2 hnz.1 hnz.2 d (kk H locs ls hP hD hS hl)
theorem kw_mmax (X : KX Γ l rm D ty cc nL own w0) {x y : Int32} {idx : Nat} (hlk : Cond.methodLink own idx Lib.Math.max.name ∈ GW) (hst : Cond.static Lib.Math.max.name ∈ GW) (hin : Cond.initialized "java/lang/Math" ∈ GW) (hcd : Cond.code Lib.Math.max.name Lib.Math.max.code 2 (some .int) ∈ GW) (hR : 1 ≤ rm.frames ∧ (st.map fun v => v.category).sum + 13 ≤ rm.locals) (hnz : n ≤ rm.cells ∧ z ≤ rm.slots) (d : decode cc pc = .ok (.invokestatic idx, 3))
    (kk : KW Γ n z ws lo (pc + 3) (.int (imax x y) :: st)) : KW Γ n z ws lo pc (.int y :: .int x :: st) := by
  obtain ⟨p, l', e, R, s, m, args, below, meth, c, Q, D', ty', AD, A, H0, nL'⟩ := Γ
  obtain ⟨rfl, rfl, rfl, rfl, rfl, ⟨hx, hb, hml, hown, hts⟩, hSK⟩ := X
  intro H locs ls hP hD hS hl
  exact va_mmax hx hb (hml.trans hl.1.symm) hown (gw_all hts hlk) (gw_all hts hst) (gw_all hts hin) (gw_all hts hcd) hR.1 hR.2 hnz.1 hnz.2 d (kk H locs ls hP hD hS hl)
theorem kw_get (X : KX Γ l rm D ty cc nL own w0) {C : String} {F : u_T} {N ci idx a : Nat} {fs : List Value} {v : Value} (hin : ∀ w ∈ u_ws C F N, w ∈ GW) (q0 : Nat) (he : ws[q0]? = some (a, .inr (ci, fs))) (hc : vwCl[ci]? = some (C, F, N)) (k : Nat) (hk : k < N) (hCk : (F k).1 = C) (hlink : Cond.fieldLink own idx C (F k).2.1 (F k).2.2.1 ∈ GW) (hv : fs[k]? = some v) (d : decode cc pc = .ok (.getfield idx, 3))
    (kk : KW Γ n z ws lo (pc + 3) (v :: st)) : KW Γ n z ws lo pc (.ref a :: st) := by
  obtain ⟨p, l', e, R, s, m, args, below, meth, c, Q, D', ty', AD, A, H0, nL'⟩ := Γ
  obtain ⟨rfl, rfl, rfl, rfl, rfl, ⟨hx, hb, hml, hown, hts⟩, hSK⟩ := X
  intro H locs ls hP hD hS hl
  exact va_get hx hb (T := F) hts (fun w h => List.mem_cons_of_mem _ (hin w h)) hown hSK.1 hP q0 he hc k hk (gw_all hts hlink) (fun _ h => hCk ▸ h) hv d (kk H locs ls hP hD hS hl)
theorem kw_getN (X : KX Γ l rm D ty cc nL own w0) {C : String} {F : u_T} {N ci idx a : Nat} {fs : List Value} {host : String} {v : Value} (hin : ∀ w ∈ u_ws C F N, w ∈ GW) (q0 : Nat) (he : ws[q0]? = some (a, .inr (ci, fs))) (hc : vwCl[ci]? = some (C, F, N)) (k : Nat) (hk : k < N) (hCk : (F k).1 = C) (hlink : Cond.fieldLinkNest own idx C (F k).2.1 (F k).2.2.1 host ∈ NWL) (hv : fs[k]? = some v) (d : decode cc pc = .ok (.getfield idx, 3))
    (kk : KW Γ n z ws lo (pc + 3) (v :: st)) : KW Γ n z ws lo pc (.ref a :: st) := by
  obtain ⟨p, l', e, R, s, m, args, below, meth, c, Q, D', ty', AD, A, H0, nL'⟩ := Γ
  obtain ⟨rfl, rfl, rfl, rfl, rfl, ⟨hx, hb, hml, hown, hts⟩, hSK⟩ := X
  intro H locs ls hP hD hS hl
  exact va_getN hx hb (T := F) hts (fun w h => List.mem_cons_of_mem _ (hin w h)) hown hSK.1 hP q0 he hc k hk (va_Nw.use rfl (hSK.2.1 _ hlink)) (fun _ h => hCk ▸ h) hv d (kk H locs ls hP hD hS hl)
theorem kw_put (X : KX Γ l rm D ty cc nL own w0) {C : String} {F : u_T} {N ci idx a : Nat} {fs : List Value} {t : FieldType} {v : Value} (E : KE Γ) (hin : ∀ w ∈ u_ws C F N, w ∈ GW) (ty0 : Nat → FieldType) (hty : ∀ k, k < N → parseFieldDescriptor (F k).2.2.1 = some (ty0 k)) (hnm : ∀ a, a < N → ∀ b, b < N → a ≠ b → (F a).2.1 ≠ (F b).2.1) (q0 : Nat) (he : ws[q0]? = some (a, .inr (ci, fs))) (hc : vwCl[ci]? = some (C, F, N)) (k : Nat) (hk : k < N) (hCk : (F k).1 = C) (hlink : Cond.fieldLink own idx C (F k).2.1 (F k).2.2.1 ∈ GW) (hfin : (F k).2.2.2 = false) (hd : parseFieldDescriptor (F k).2.2.1 = some t) (hn : narrow t v = v) (hfit : fits t v = true) (hlen : k < fs.length) (hws : ws.set q0 (a, .inr (ci, fs.set k v)) = ws') (d : decode cc pc = .ok (.putfield idx, 3))
    (kk : KW Γ n z ws' lo (pc + 3) st) : KW Γ n z ws lo pc (v :: .ref a :: st) := by
  obtain ⟨p, l', e, R, s, m, args, below, meth, c, Q, D', ty', AD, A, H0, nL'⟩ := Γ
  obtain ⟨rfl, rfl, rfl, rfl, rfl, ⟨hx, hb, hml, hown, hts⟩, hSK⟩ := X
  intro H locs ls hP hD hS hl
  obtain ⟨rfl, hA⟩ := E
  subst hws
  exact va_put hx hb (T := F) hts (fun w h => List.mem_cons_of_mem _ (hin w h)) ty0 hty hnm hown hSK.1 hP hD hS q0 he hc k hk (gw_all hts hlink) (fun _ h => hCk ▸ h) hfin  hd hn hfit hlen d (fun H1 locs1 hP1 hD1 hS1 => kk H1 locs1 ls hP1 hD1 hS1 hl)
theorem kw_putN (X : KX Γ l rm D ty cc nL own w0) {C : String} {F : u_T} {N ci idx a : Nat} {fs : List Value} {host : String} {t : FieldType} {v : Value} (E : KE Γ) (hin : ∀ w ∈ u_ws C F N, w ∈ GW) (ty0 : Nat → FieldType) (hty : ∀ k, k < N → parseFieldDescriptor (F k).2.2.1 = some (ty0 k)) (hnm : ∀ a, a < N → ∀ b, b < N → a ≠ b → (F a).2.1 ≠ (F b).2.1) (q0 : Nat) (he : ws[q0]? = some (a, .inr (ci, fs))) (hc : vwCl[ci]? = some (C, F, N)) (k : Nat) (hk : k < N) (hCk : (F k).1 = C) (hlink : Cond.fieldLinkNest own idx C (F k).2.1 (F k).2.2.1 host ∈ NWL) (hfin : (F k).2.2.2 = false) (hd : parseFieldDescriptor (F k).2.2.1 = some t) (hn : narrow t v = v) (hfit : fits t v = true) (hlen : k < fs.length) (hws : ws.set q0 (a, .inr (ci, fs.set k v)) = ws') (d : decode cc pc = .ok (.putfield idx, 3))
    (kk : KW Γ n z ws' lo (pc + 3) st) : KW Γ n z ws lo pc (v :: .ref a :: st) := by
  obtain ⟨p, l', e, R, s, m, args, below, meth, c, Q, D', ty', AD, A, H0, nL'⟩ := Γ
  obtain ⟨rfl, rfl, rfl, rfl, rfl, ⟨hx, hb, hml, hown, hts⟩, hSK⟩ := X
  intro H locs ls hP hD hS hl
  obtain ⟨rfl, hA⟩ := E
  subst hws
  exact va_putN hx hb (T := F) hts (fun w h => List.mem_cons_of_mem _ (hin w h)) ty0 hty hnm hown hSK.1 hP hD hS q0 he hc k hk (va_Nw.use rfl (hSK.2.1 _ hlink)) (fun _ h => hCk ▸ h) hfin  hd hn hfit hlen d (fun H1 locs1 hP1 hD1 hS1 => kk H1 locs1 ls hP1 hD1 hS1 hl)
theorem kw_putF (X : KX Γ l rm D ty cc nL own w0) {C : String} {F : u_T} {N ci idx a : Nat} {fs : List Value} {t : FieldType} {v : Value} (E : KE Γ) (hin : ∀ w ∈ u_ws C F N, w ∈ GW) (ty0 : Nat → FieldType) (hty : ∀ k, k < N → parseFieldDescriptor (F k).2.2.1 = some (ty0 k)) (hnm : ∀ a, a < N → ∀ b, b < N → a ≠ b → (F a).2.1 ≠ (F b).2.1) (q0 : Nat) (he : ws[q0]? = some (a, .inr (ci, fs))) (hc : vwCl[ci]? = some (C, F, N)) (k : Nat) (hk : k < N) (hCk : (F k).1 = C) (hN : KN Γ) (hown0 : C = own) (hlink : Cond.fieldLink own idx C (F k).2.1 (F k).2.2.1 ∈ GW) (hfin : (F k).2.2.2 = true) (hd : parseFieldDescriptor (F k).2.2.1 = some t) (hn : narrow t v = v) (hfit : fits t v = true) (hlen : k < fs.length) (hws : ws.set q0 (a, .inr (ci, fs.set k v)) = ws') (d : decode cc pc = .ok (.putfield idx, 3))
    (kk : KW Γ n z ws' lo (pc + 3) st) : KW Γ n z ws lo pc (v :: .ref a :: st) := by
  obtain ⟨p, l', e, R, s, m, args, below, meth, c, Q, D', ty', AD, A, H0, nL'⟩ := Γ
  obtain ⟨rfl, rfl, rfl, rfl, rfl, ⟨hx, hb, hml, hown, hts⟩, hSK⟩ := X
  intro H locs ls hP hD hS hl
  obtain ⟨rfl, hA⟩ := E
  subst hws
  exact va_putF hx hb (T := F) hts (fun w h => List.mem_cons_of_mem _ (hin w h)) ty0 hty hnm hown hSK.1 hP hD hS q0 he hc k hk (gw_all hts hlink) (fun _ h => hCk ▸ h) hfin hN (hCk.trans hown0) hd hn hfit hlen d (fun H1 locs1 hP1 hD1 hS1 => kk H1 locs1 ls hP1 hD1 hS1 hl)
theorem kw_iald (X : KX Γ l rm D ty cc nL own w0) {a : Nat} {cA : ClassId} {N : Nat} {f : Nat → Int32} {i v : Int32} (q0 t0 : Nat) (ha : ws[q0]? = some (a, .inl (cA, N, .inl f))) (ht : ty[t0]? = some (cA, .int)) (hin : vp_in i N) (hv : f i.toNatClampNeg = v) (d : decode cc pc = .ok (.iaload, 1))
    (kk : KW Γ n z ws lo (pc + 1) (.int v :: st)) : KW Γ n z ws lo pc (.int i :: .ref a :: st) := by
  obtain ⟨p, l', e, R, s, m, args, below, meth, c, Q, D', ty', AD, A, H0, nL'⟩ := Γ
  obtain ⟨rfl, rfl, rfl, rfl, rfl, ⟨hx, hb, hml, hown, hts⟩, hSK⟩ := X
  intro H locs ls hP hD hS hl
  subst hv
  exact va_iald hx hb hSK.1 hP q0 t0 ha ht hin d (kk H locs ls hP hD hS hl)
theorem kw_cald (X : KX Γ l rm D ty cc nL own w0) {a : Nat} {cA : ClassId} {N : Nat} {f : Nat → Int32} {i v : Int32} (q0 t0 : Nat) (ha : ws[q0]? = some (a, .inl (cA, N, .inl f))) (ht : ty[t0]? = some (cA, .char)) (hin : vp_in i N) (hv : f i.toNatClampNeg = v) (d : decode cc pc = .ok (.caload, 1))
    (kk : KW Γ n z ws lo (pc + 1) (.int v :: st)) : KW Γ n z ws lo pc (.int i :: .ref a :: st) := by
  obtain ⟨p, l', e, R, s, m, args, below, meth, c, Q, D', ty', AD, A, H0, nL'⟩ := Γ
  obtain ⟨rfl, rfl, rfl, rfl, rfl, ⟨hx, hb, hml, hown, hts⟩, hSK⟩ := X
  intro H locs ls hP hD hS hl
  subst hv
  exact va_cald hx hb hSK.1 hP q0 t0 ha ht hin d (kk H locs ls hP hD hS hl)
theorem kw_aald (X : KX Γ l rm D ty cc nL own w0) {a : Nat} {cA : ClassId} {C : String} {N : Nat} {f : Nat → Option Nat} {i : Int32} (q0 t0 : Nat) (ha : ws[q0]? = some (a, .inl (cA, N, .inr (.inr (.inr (.inr f)))))) (ht : ty[t0]? = some (cA, .object C)) (hin : vp_in i N) (d : decode cc pc = .ok (.aaload, 1))
    (kk : KW Γ n z ws lo (pc + 1) (va_rf (f i.toNatClampNeg) :: st)) : KW Γ n z ws lo pc (.int i :: .ref a :: st) := by
  obtain ⟨p, l', e, R, s, m, args, below, meth, c, Q, D', ty', AD, A, H0, nL'⟩ := Γ
  obtain ⟨rfl, rfl, rfl, rfl, rfl, ⟨hx, hb, hml, hown, hts⟩, hSK⟩ := X
  intro H locs ls hP hD hS hl
  exact va_aldq hx hb hSK.1 hP q0 t0 ha ht hin d (kk H locs ls hP hD hS hl)
theorem kw_iast (X : KX Γ l rm D ty cc nL own w0) {a : Nat} {cA : ClassId} {N : Nat} {f : Nat → Int32} {i x : Int32} (E : KE Γ) (q0 t0 : Nat) (ha : ws[q0]? = some (a, .inl (cA, N, .inl f))) (ht : ty[t0]? = some (cA, .int)) (hin : vp_in i N) (hws : ws.set q0 (a, .inl (cA, N, .inl (upd f i.toNatClampNeg x))) = ws') (d : decode cc pc = .ok (.iastore, 1))
    (kk : KW Γ n z ws' lo (pc + 1) st) : KW Γ n z ws lo pc (.int x :: .int i :: .ref a :: st) := by
  obtain ⟨p, l', e, R, s, m, args, below, meth, c, Q, D', ty', AD, A, H0, nL'⟩ := Γ
  obtain ⟨rfl, rfl, rfl, rfl, rfl, ⟨hx, hb, hml, hown, hts⟩, hSK⟩ := X
  intro H locs ls hP hD hS hl
  obtain ⟨rfl, hA⟩ := E
  subst hws
  exact va_iast hx hb hSK.1 hP hD hS q0 t0 ha ht hin d (fun H1 locs1 hP1 hD1 hS1 => kk H1 locs1 ls hP1 hD1 hS1 hl)
theorem kw_cast (X : KX Γ l rm D ty cc nL own w0) {a : Nat} {cA : ClassId} {N : Nat} {f : Nat → Int32} {i x : Int32} (E : KE Γ) (q0 t0 : Nat) (ha : ws[q0]? = some (a, .inl (cA, N, .inl f))) (ht : ty[t0]? = some (cA, .char)) (hin : vp_in i N) (hws : ws.set q0 (a, .inl (cA, N, .inl (upd f i.toNatClampNeg (vp_nar .char x)))) = ws') (d : decode cc pc = .ok (.castore, 1))
    (kk : KW Γ n z ws' lo (pc + 1) st) : KW Γ n z ws lo pc (.int x :: .int i :: .ref a :: st) := by
  obtain ⟨p, l', e, R, s, m, args, below, meth, c, Q, D', ty', AD, A, H0, nL'⟩ := Γ
  obtain ⟨rfl, rfl, rfl, rfl, rfl, ⟨hx, hb, hml, hown, hts⟩, hSK⟩ := X
  intro H locs ls hP hD hS hl
  obtain ⟨rfl, hA⟩ := E
  subst hws
  exact va_cast hx hb hSK.1 hP hD hS q0 t0 ha ht hin d (fun H1 locs1 hP1 hD1 hS1 => kk H1 locs1 ls hP1 hD1 hS1 hl)
theorem kw_aast (X : KX Γ l rm D ty cc nL own w0) {a v : Nat} {cA : ClassId} {r : vw_C} {N ci : Nat} {vs : List Value} {f : Nat → Option Nat} {i : Int32} (E : KE Γ) (q0 t0 qk : Nat) (ha : ws[q0]? = some (a, .inl (cA, N, .inr (.inr (.inr (.inr f)))))) (ht : ty[t0]? = some (cA, .object r.1)) (hv : ws[qk]? = some (v, .inr (ci, vs))) (hc : vwCl[ci]? = some r) (hin : vp_in i N) (hws : ws.set q0 (a, .inl (cA, N, .inr (.inr (.inr (.inr (va_up f i.toNatClampNeg (some v))))))) = ws') (d : decode cc pc = .ok (.aastore, 1))
    (kk : KW Γ n z ws' lo (pc + 1) st) : KW Γ n z ws lo pc (.ref v :: .int i :: .ref a :: st) := by
  obtain ⟨p, l', e, R, s, m, args, below, meth, c, Q, D', ty', AD, A, H0, nL'⟩ := Γ
  obtain ⟨rfl, rfl, rfl, rfl, rfl, ⟨hx, hb, hml, hown, hts⟩, hSK⟩ := X
  intro H locs ls hP hD hS hl
  obtain ⟨rfl, hA⟩ := E
  subst hws
  exact va_astq hx hb hSK.1 hP hD hS q0 t0 qk ci ha ht hv hc hin d (fun H1 locs1 hP1 hD1 hS1 => kk H1 locs1 ls hP1 hD1 hS1 hl)
theorem kw_alen (X : KX Γ l rm D ty cc nL own w0) {a : Nat} {cA : ClassId} {x : vp_A} {v : Int32} {t : FieldType} (q0 t0 : Nat) (ha : ws[q0]? = some (a, .inl (cA, x))) (ht : ty[t0]? = some (cA, t)) (hv : Int32.ofNat x.1 = v) (d : decode cc pc = .ok (.arraylength, 1))
    (kk : KW Γ n z ws lo (pc + 1) (.int v :: st)) : KW Γ n z ws lo pc (.ref a :: st) := by
  obtain ⟨p, l', e, R, s, m, args, below, meth, c, Q, D', ty', AD, A, H0, nL'⟩ := Γ
  obtain ⟨rfl, rfl, rfl, rfl, rfl, ⟨hx, hb, hml, hown, hts⟩, hSK⟩ := X
  intro H locs ls hP hD hS hl
  exact va_alen hx hb hSK.1 hP q0 t0 ha ht hv d (kk H locs ls hP hD hS hl)
theorem gw_sub {w1 : Cond} (h : w1 ∈ GW) : GoodIn (w0 :: GW) (w1 :: GW) := by
  intro w hw
  rcases List.mem_cons.mp hw with rfl | hw
  · exact ⟨List.mem_cons_of_mem _ h, gw_good _ h⟩
  · exact ⟨List.mem_cons_of_mem _ hw, gw_good _ hw⟩
def VL (own : String) (idx : Nat) (C : String) (y : MethodName) (cy : ByteArray) (my : Nat) (ry : Option FieldType) : Prop := (Cond.methodLink own idx y ∈ GW ∧ Cond.instanceMethod y ∈ GW ∧ Cond.selects C y y ∈ GW ∧ Cond.initialized C ∈ GW) ∧ Cond.code y cy my ry ∈ GW
def SL (own : String) (idx : Nat) (y : MethodName) (cy : ByteArray) (my : Nat) (ry : Option FieldType) : Prop := (Cond.methodLink own idx y ∈ GW ∧ Cond.static y ∈ GW ∧ Cond.initialized own ∈ GW) ∧ Cond.code y cy my ry ∈ GW
theorem gw_V {idx my : Nat} {C : String} {y : MethodName} {cy : ByteArray} {ry : Option FieldType} (h : VL own idx C y cy my ry) : GoodIn (w0 :: GW) (wsV own idx C y (mws y cy my ry)) := by
  intro w hw
  rcases List.mem_append.mp hw with hw | hw
  · simp only [List.mem_cons, List.mem_nil_iff, or_false, List.not_mem_nil] at hw
    rcases hw with rfl | rfl | rfl | rfl
    · exact ⟨List.mem_cons_of_mem _ h.1.1, gw_good _ h.1.1⟩
    · exact ⟨List.mem_cons_of_mem _ h.1.2.1, gw_good _ h.1.2.1⟩
    · exact ⟨List.mem_cons_of_mem _ h.1.2.2.1, gw_good _ h.1.2.2.1⟩
    · exact ⟨List.mem_cons_of_mem _ h.1.2.2.2, gw_good _ h.1.2.2.2⟩
  · exact gw_sub h.2 w hw
theorem gw_S {idx my : Nat} {y : MethodName} {cy : ByteArray} {ry : Option FieldType} (h : SL own idx y cy my ry) : GoodIn (w0 :: GW) (wsS own idx y (mws y cy my ry)) := by
  intro w hw
  rcases List.mem_append.mp hw with hw | hw
  · simp only [List.mem_cons, List.mem_nil_iff, or_false, List.not_mem_nil] at hw
    rcases hw with rfl | rfl | rfl
    · exact ⟨List.mem_cons_of_mem _ h.1.1, gw_good _ h.1.1⟩
    · exact ⟨List.mem_cons_of_mem _ h.1.2.1, gw_good _ h.1.2.1⟩
    · exact ⟨List.mem_cons_of_mem _ h.1.2.2, gw_good _ h.1.2.2⟩
  · exact gw_sub h.2 w hw
def YV (y : MethodName) (C : String) (n : Nat) : Prop := y.cls = C ∧ y.cls ≠ "java/lang/invoke/MethodHandle" ∧ y.cls ≠ "java/lang/invoke/VarHandle" ∧ (parseMethodDescriptor y.desc).map (fun d => d.parameters.length) = some n
/-- cells put back at their places -/
def wput : va_W → List Nat → va_W → va_W
  | ws, i :: is, x :: xs => wput (ws.set i x) is xs
  | ws, _, _ => ws
theorem wput_fst : ∀ (is : List Nat) (xs ws : va_W), (∀ (k i : Nat) (x : Nat × va_E), is[k]? = some i → xs[k]? = some x → (ws[i]?).map (·.1) = some x.1) → (wput ws is xs).map (·.1) = ws.map (·.1)
  | [], xs, ws, _ => by cases xs <;> rfl
  | i :: is, [], ws, _ => rfl
  | i :: is, x :: xs, ws, h => by
    have h0 := h 0 i x rfl rfl
    have e : (ws.set i x).map (·.1) = ws.map (·.1) := by
      apply List.ext_getElem?
      intro j
      rw [List.getElem?_map, List.getElem?_map, List.getElem?_set]
      by_cases hj : i = j
      · subst hj
        by_cases hl : i < ws.length
        · rw [if_pos rfl, if_pos hl, h0]; rfl
        · rw [if_pos rfl, if_neg hl, List.getElem?_eq_none (by omega)]
      · rw [if_neg hj]
    show (wput (ws.set i x) is xs).map (·.1) = _
    rw [wput_fst is xs (ws.set i x) ?_, e]
    intro k i' x' h1 h2
    have h3 := h (k + 1) i' x' h1 h2
    rw [← List.getElem?_map] at h3 ⊢
    rw [e]
    exact h3
theorem wput_get : ∀ (is : List Nat) (xs ws : va_W), va_nd is = true → ∀ (j : Nat) (q : Nat × va_E), (wput ws is xs)[j]? = some q → (∃ k : Nat, is[k]? = some j ∧ xs[k]? = some q) ∨ ((j ∉ is ∨ xs.length < is.length) ∧ ws[j]? = some q)
  | [], xs, ws, _, j, q, h => by cases xs <;> exact Or.inr ⟨Or.inl (by simp), h⟩
  | i :: is, [], ws, _, j, q, h => Or.inr ⟨Or.inr (by simp), h⟩
  | i :: is, x :: xs, ws, hn, j, q, h => by
    simp only [va_nd, Bool.and_eq_true, decide_eq_true_eq] at hn
    rcases wput_get is xs (ws.set i x) hn.2 j q h with ⟨k, h1, h2⟩ | ⟨h1, h2⟩
    · exact Or.inl ⟨k + 1, h1, h2⟩
    · rw [List.getElem?_set] at h2
      by_cases hj : i = j
      · subst hj
        rw [if_pos rfl] at h2
        by_cases hl : i < ws.length
        · rw [if_pos hl] at h2
          exact Or.inl ⟨0, rfl, h2⟩
        · rw [if_neg hl] at h2; cases h2
      · rw [if_neg hj] at h2
        refine Or.inr ⟨?_, h2⟩
        rcases h1 with h1 | h1
        · left; intro hm; rcases List.mem_cons.mp hm with rfl | hm
          · exact hj rfl
          · exact h1 hm
        · right; simp only [List.length_cons]; omega
theorem va_D_fst {A : Nat → Prop} {w1 w2 : va_W} (h : w1.map (·.1) = w2.map (·.1)) (hD : va_D A w1) : va_D A w2 := by
  have key : ∀ (k : Nat) (q : Nat × va_E), w2[k]? = some q → ∃ q', w1[k]? = some q' ∧ q'.1 = q.1 := by
    intro k q hq
    have h1 : (w1.map (·.1))[k]? = some q.1 := by rw [h, List.getElem?_map, hq]; rfl
    rw [List.getElem?_map] at h1
    cases hw : w1[k]? with
    | none => rw [hw] at h1; cases h1
    | some q' => rw [hw] at h1; exact ⟨q', rfl, Option.some.inj h1⟩
  refine ⟨fun i j p q hi hj hpq => ?_, fun k q hk => ?_⟩
  · obtain ⟨p', h1, h2⟩ := key i p hi
    obtain ⟨q', h3, h4⟩ := key j q hj
    exact hD.1 i j p' q' h1 h3 (h2.trans (hpq.trans h4.symm))
  · obtain ⟨q', h1, h2⟩ := key k q hk
    rw [← h2]; exact hD.2 k q' h1
/-- behind a call: what came back, at its places, beside the rest -/
theorem wput_join {A0 : Nat → Prop} {D : va_G} {cl : List vw_C} {ws wc w1 : va_W} {H H1 : Heap} (hP : va_P D cl ws H) (hD : va_D A0 ws) (isC : List Nat) (hC : isC.map (fun i => ws[i]?) = wc.map some) (hn : va_nd isC = true) (hf : w1.map (·.1) = wc.map (·.1))
    (hk : ∀ q : Nat, q < H.size → ¬ va_A wc H.size q → H1[q]? = H[q]?) (hP1 : va_P D cl w1 H1) : va_P D cl (wput ws isC w1) H1 ∧ va_D A0 (wput ws isC w1) := by
  have at' : ∀ (k : Nat) (q : Nat × va_E), wc[k]? = some q → ∃ i, isC[k]? = some i ∧ ws[i]? = some q := by
    intro k q hq
    have h1 : (isC.map (fun i => ws[i]?))[k]? = some (some q) := by rw [hC, List.getElem?_map, hq]; rfl
    rw [List.getElem?_map] at h1
    cases hi : isC[k]? with
    | none => rw [hi] at h1; cases h1
    | some i => rw [hi] at h1; exact ⟨i, rfl, Option.some.inj h1⟩
  have hlen : w1.length = isC.length := by
    have h1 := congrArg List.length hf
    have h2 := congrArg List.length hC
    simp only [List.length_map] at h1 h2
    omega
  refine ⟨fun j q hq => ?_, ?_⟩
  · rcases wput_get isC w1 ws hn j q hq with ⟨k, h1, h2⟩ | ⟨h1, h2⟩
    · exact hP1 k q h2
    · have hj : j ∉ isC := by
        rcases h1 with h1 | h1
        · exact h1
        · omega
      refine (hP j q h2).kept (hk q.1 (hP j q h2).lt ?_)
      intro hA
      rcases hA with ⟨k, e, hA⟩ | hA
      · obtain ⟨i, h3, h4⟩ := at' k (q.1, e) hA
        have := hD.1 j i q (q.1, e) h2 h4 rfl
        subst this
        exact hj (List.mem_of_getElem? h3)
      · have := (hP j q h2).lt
        omega
  · refine va_D_fst (w1 := ws) ?_ hD
    rw [wput_fst isC w1 ws ?_]
    intro k i x h1 h2
    have h3 : (wc.map (·.1))[k]? = some x.1 := by rw [← hf, List.getElem?_map, h2]; rfl
    rw [List.getElem?_map] at h3
    cases hw : wc[k]? with
    | none => rw [hw] at h3; cases h3
    | some q =>
      rw [hw] at h3
      obtain ⟨i', h4, h5⟩ := at' k q hw
      rw [h1] at h4; cases h4
      rw [h5]; exact h3
/-- behind a call that changes nothing -/
theorem kw_backP {p : Program} {l : Launch} {e : Env} {R : Room} {s : State} {m : MethodId} {args : Array Value} {below : List Frame} {meth : Method} {c : Code} {H : Heap} {locs : List Loc} {cells slots : Nat} {Q : State → Prop} {A : Nat → Prop} {H0 : Heap} {D : va_G} {ls : Array Slot} {stk : List Value} {v : Value}
    (hr : va_Run p l e R s m args below meth c H locs cells slots 0 0 (F0 m pc ls stk) st (fun st oc t => oc = .returned (some v) ∧ va_F (fun _ => False) st t) (fun _ => False)) (hP : va_P D vwCl ws H) (hS : va_S A H0 H locs)
    (kk : ∀ (H1 : Heap) (locs1 : List Loc), va_P D vwCl ws H1 → va_S A H0 H1 locs1 → W p l e R s m args below meth c H1 locs1 cells slots Q (F0 m (pc + 3) ls (v :: st))) : W p l e R s m args below meth c H locs cells slots Q (F0 m pc ls stk) := by
  intro T hT X
  obtain ⟨v', st₀, t, T', L, h0, X', hL, e1, e2, ⟨hv, hz, hk⟩, stp⟩ := hr T hT X
  cases hv
  rw [h0] at hz hk
  have hk' : ∀ q : Nat, q < H.size → T'.heap[q]? = H[q]? := fun q h => by rw [e1]; exact hk q h (fun h => h)
  have hz' : H.size ≤ T'.heap.size := by rw [e1]; exact hz
  obtain ⟨t2, a1, b1⟩ := kk T'.heap (locs ++ L) (hP.kept (fun k q hq => hk' q.1 (hP k q hq).lt)) ⟨Nat.le_trans hS.1 hz', fun q h1 h2 => (hk' q (Nat.lt_of_lt_of_le h1 hS.1)).trans (hS.2.1 q h1 h2), fun q hq => by
    rcases List.mem_append.mp hq with h | h
    · exact hS.2.2 q h
    · exact (hL q h).elim⟩ T' rfl X'
  exact ⟨t2, stp t2 a1, b1⟩
/-- behind a call that changes its own cells alone -/
theorem kw_backE {p : Program} {l : Launch} {e : Env} {R : Room} {s : State} {m : MethodId} {args : Array Value} {below : List Frame} {meth : Method} {c : Code} {H : Heap} {locs : List Loc} {cells slots mc ms : Nat} {Q : State → Prop} {A : Nat → Prop} {H0 : Heap} {ls : Array Slot} {stk : List Value} {v : Option Value} {wc : va_W} {P1 : State → Prop}
    (hr : va_Run p l e R s m args below meth c H locs cells slots mc ms (F0 m pc ls stk) st (fun st oc t => (oc = .returned v ∧ P1 t) ∧ va_F (va_A wc H.size) st t) (va_A wc H.size)) (hS : va_S A H0 H locs) (hF : ∀ q, va_A wc H.size q → A q)
    (kk : ∀ (t : State) (H1 : Heap) (locs1 : List Loc), t.heap = H1 → P1 t → H.size ≤ H1.size → (∀ q : Nat, q < H.size → ¬ va_A wc H.size q → H1[q]? = H[q]?) → va_S A H0 H1 locs1 → W p l e R s m args below meth c H1 locs1 (cells + mc) (slots + ms) Q (F0 m (pc + 3) ls (v.toList ++ st))) : W p l e R s m args below meth c H locs cells slots Q (F0 m pc ls stk) := by
  intro T hT X
  obtain ⟨v', st₀, t, T', L, h0, X', hL, e1, e2, ⟨⟨hv, hp⟩, hz, hk⟩, stp⟩ := hr T hT X
  cases hv
  rw [h0] at hz hk
  have hz' : H.size ≤ T'.heap.size := by rw [e1]; exact hz
  have hk' : ∀ q : Nat, q < H.size → ¬ va_A wc H.size q → T'.heap[q]? = H[q]? := fun q h h2 => by rw [e1]; exact hk q h h2
  obtain ⟨t2, a1, b1⟩ := kk t T'.heap (locs ++ L) e1.symm hp hz' hk' ⟨Nat.le_trans hS.1 hz', fun q h1 h2 => (hk' q (Nat.lt_of_lt_of_le h1 hS.1) (fun z => h2 (hF q z))).trans (hS.2.1 q h1 h2), fun q hq => by
    rcases List.mem_append.mp hq with h | h
    · exact hS.2.2 q h
    · exact hF _ (hL q h)⟩ T' rfl X'
  exact ⟨t2, stp t2 a1, b1⟩
theorem kw_vp (X : KX Γ l rm D ty cc nL own w0) {y : MethodName} {cy : ByteArray} {my idx b ci k : Nat} {ry : Option FieldType} {rc : Room} {C : String} {F : u_T} {N : Nat} {fs : List Value} {As stk : List Value} {wc : va_W} {r : Value} (hM : MPi l y cy my ry rc D ty (.ref b :: As) wc r) (vl : VL own idx C y cy my ry) (hd : YV y C k) (hR : rc.frames + 1 ≤ rm.frames ∧ 8 + (my + 11) + rc.locals ≤ rm.locals) (hR0 : rc.cells = 0 ∧ rc.slots = 0) (hnz : n ≤ rm.cells ∧ z ≤ rm.slots) (q0 : Nat) (he : ws[q0]? = some (b, .inr (ci, fs))) (hc : vwCl[ci]? = some (C, F, N)) (isC : List Nat) (hn : va_nd isC = true) (hC : isC.map (fun i => ws[i]?) = wc.map some) (hst : stk = As.reverse ++ .ref b :: st) (hAs : As.length = k) (hcat : (st.map fun v => v.category).sum ≤ 8) (d : decode cc pc = .ok (.invokevirtual idx, 3))
    (kk : KW Γ n z ws lo (pc + 3) (r :: st)) : KW Γ n z ws lo pc stk := by
  obtain ⟨p, l', e, R, s, m, args, below, meth, c, Q, D', ty', AD, A, H0, nL'⟩ := Γ
  obtain ⟨rfl, rfl, rfl, rfl, rfl, ⟨hx, hb, hml, hown, hts⟩, hSK⟩ := X
  intro H locs ls hP hD hS hl
  subst hst
  have hC2 : isC.filterMap (fun i => ws[i]?) = wc := by
    have h := congrArg (fun l => l.filterMap id) hC
    simpa [List.filterMap_map, Function.comp_def] using h
  have hPc := hP.sub isC hC2
  have hDc : va_D (fun _ => True) wc := (hD.sub isC hn hC).weaken (fun _ _ _ _ => trivial)
  exact kw_backP (va_runV (As := As) (rest := st) ⟨hx, hb, hml, hown, hts⟩ (hM) (cwV k hts (gw_V vl) rfl hR0.1 hR0.2 hd hR) ⟨fun a U g mk q => by obtain ⟨q0, q1, q2, q3⟩ := q; exact ⟨q0, q1, q2.calling g mk a, q3⟩, va_recv hSK.1 hP hc he, fun U hU hW => ⟨rfl, by rw [hU]; exact hPc, hSK.moved hW, hDc⟩⟩ rfl hAs hl.1 rfl (lv_room hcat) d ⟨hnz.1, hnz.2⟩) hP hS (fun H1 locs1 hP1 hS1 => kk H1 locs1 ls hP1 hD hS1 hl)
theorem kw_sp (X : KX Γ l rm D ty cc nL own w0) {y : MethodName} {cy : ByteArray} {my idx k : Nat} {ry : Option FieldType} {rc : Room} {As stk : List Value} {wc : va_W} {r : Value} (hM : MPi l y cy my ry rc D ty As wc r) (vl : SL own idx y cy my ry) (hd : YV y own k) (hR : rc.frames + 1 ≤ rm.frames ∧ 8 + (my + 11) + rc.locals ≤ rm.locals) (hR0 : rc.cells = 0 ∧ rc.slots = 0) (hnz : n ≤ rm.cells ∧ z ≤ rm.slots) (isC : List Nat) (hn : va_nd isC = true) (hC : isC.map (fun i => ws[i]?) = wc.map some) (hst : stk = As.reverse ++ st) (hAs : As.length = k) (hcat : (st.map fun v => v.category).sum ≤ 8) (d : decode cc pc = .ok (.invokestatic idx, 3))
    (kk : KW Γ n z ws lo (pc + 3) (r :: st)) : KW Γ n z ws lo pc stk := by
  obtain ⟨p, l', e, R, s, m, args, below, meth, c, Q, D', ty', AD, A, H0, nL'⟩ := Γ
  obtain ⟨rfl, rfl, rfl, rfl, rfl, ⟨hx, hb, hml, hown, hts⟩, hSK⟩ := X
  intro H locs ls hP hD hS hl
  subst hst
  have hC2 : isC.filterMap (fun i => ws[i]?) = wc := by
    have h := congrArg (fun l => l.filterMap id) hC
    simpa [List.filterMap_map, Function.comp_def] using h
  have hPc := hP.sub isC hC2
  have hDc : va_D (fun _ => True) wc := (hD.sub isC hn hC).weaken (fun _ _ _ _ => trivial)
  exact kw_backP (va_runS (As := As) (rest := st) ⟨hx, hb, hml, hown, hts⟩ (hM) (cwS k hts (gw_S vl) rfl hR0.1 hR0.2 hd hR) ⟨fun a U g mk q => by obtain ⟨q0, q1, q2, q3⟩ := q; exact ⟨q0, q1, q2.calling g mk a, q3⟩, fun U hU hW => ⟨rfl, by rw [hU]; exact hPc, hSK.moved hW, hDc⟩⟩ rfl hAs hl.1 rfl (lv_room hcat) d ⟨hnz.1, hnz.2⟩) hP hS (fun H1 locs1 hP1 hS1 => kk H1 locs1 ls hP1 hD hS1 hl)
theorem kw_snp (X : KX Γ l rm D ty cc nL own w0) {y : MethodName} {cy : ByteArray} {my idx k : Nat} {ry : Option FieldType} {rc : Room} {As stk : List Value} {wc : va_W} {host : String} {r : Value} (hM : MPi l y cy my ry rc D ty As wc r) (hlk : Cond.methodLinkNest own idx y host ∈ NWL) (vl : (Cond.static y ∈ GW ∧ Cond.initialized y.cls ∈ GW) ∧ Cond.code y cy my ry ∈ GW) (hd : YV y y.cls k) (hR : rc.frames + 1 ≤ rm.frames ∧ 8 + (my + 11) + rc.locals ≤ rm.locals) (hR0 : rc.cells = 0 ∧ rc.slots = 0) (hnz : n ≤ rm.cells ∧ z ≤ rm.slots) (isC : List Nat) (hn : va_nd isC = true) (hC : isC.map (fun i => ws[i]?) = wc.map some) (hst : stk = As.reverse ++ st) (hAs : As.length = k) (hcat : (st.map fun v => v.category).sum ≤ 8) (d : decode cc pc = .ok (.invokestatic idx, 3))
    (kk : KW Γ n z ws lo (pc + 3) (r :: st)) : KW Γ n z ws lo pc stk := by
  obtain ⟨p, l', e, R, s, m, args, below, meth, c, Q, D', ty', AD, A, H0, nL'⟩ := Γ
  obtain ⟨rfl, rfl, rfl, rfl, rfl, ⟨hx, hb, hml, hown, hts⟩, hSK⟩ := X
  intro H locs ls hP hD hS hl
  subst hst
  have hC2 : isC.filterMap (fun i => ws[i]?) = wc := by
    have h := congrArg (fun l => l.filterMap id) hC
    simpa [List.filterMap_map, Function.comp_def] using h
  have hPc := hP.sub isC hC2
  have hDc : va_D (fun _ => True) wc := (hD.sub isC hn hC).weaken (fun _ _ _ _ => trivial)
  exact kw_backP (va_runSN (As := As) (rest := st) ⟨hx, hb, hml, hown, hts⟩ (hM) ⟨va_cnB k hts (gw_sub vl.2) rfl hR0.1 hR0.2 (hSK.2.1 _ hlk) (gw_all hts vl.1.2) hd.2 hR, gw_all hts vl.1.1, trivial⟩ ⟨fun a U g mk q => by obtain ⟨q0, q1, q2, q3⟩ := q; exact ⟨q0, q1, q2.calling g mk a, q3⟩, fun U hU hW => ⟨rfl, by rw [hU]; exact hPc, hSK.moved hW, hDc⟩⟩ rfl hAs hl.1 rfl (lv_room hcat) d ⟨hnz.1, hnz.2⟩) hP hS (fun H1 locs1 hP1 hS1 => kk H1 locs1 ls hP1 hD hS1 hl)
theorem kw_vei (X : KX Γ l rm D ty cc nL own w0) {y : MethodName} {cy : ByteArray} {my idx b ci k : Nat} {ry : Option FieldType} {rc : Room} {C : String} {F : u_T} {N : Nat} {fs : List Value} {As stk : List Value} {wc : va_W} {w1 : va_W} {r : Value} (E : KE Γ) (hM : MEq l y cy my ry rc D ty (.ref b :: As) wc w1 (some r)) (vl : VL own idx C y cy my ry) (hd : YV y C k) (hR : rc.frames + 1 ≤ rm.frames ∧ 8 + (my + 11) + rc.locals ≤ rm.locals) (hR0 : rc.cells = 0 ∧ rc.slots = 0) (hnz : n ≤ rm.cells ∧ z ≤ rm.slots) (q0 : Nat) (he : ws[q0]? = some (b, .inr (ci, fs))) (hc : vwCl[ci]? = some (C, F, N)) (isC : List Nat) (hn : va_nd isC = true) (hC : isC.map (fun i => ws[i]?) = wc.map some) (hst : stk = As.reverse ++ .ref b :: st) (hAs : As.length = k) (hcat : (st.map fun v => v.category).sum ≤ 8) (d : decode cc pc = .ok (.invokevirtual idx, 3)) (as : List Nat) (hf1 : w1.map (·.1) = as) (hf2 : wc.map (·.1) = as) (hws : wput ws isC w1 = ws')
    (kk : KW Γ n z ws' lo (pc + 3) (r :: st)) : KW Γ n z ws lo pc stk := by
  obtain ⟨p, l', e, R, s, m, args, below, meth, c, Q, D', ty', AD, A, H0, nL'⟩ := Γ
  obtain ⟨rfl, rfl, rfl, rfl, rfl, ⟨hx, hb, hml, hown, hts⟩, hSK⟩ := X
  intro H locs ls hP hD hS hl
  obtain ⟨rfl, hA⟩ := E
  subst hst
  have hC2 : isC.filterMap (fun i => ws[i]?) = wc := by
    have h := congrArg (fun l => l.filterMap id) hC
    simpa [List.filterMap_map, Function.comp_def] using h
  have hPc := hP.sub isC hC2
  have hDc : va_D (fun _ => True) wc := (hD.sub isC hn hC).weaken (fun _ _ _ _ => trivial)
  have hF := va_free (wc := wc) hD hS hA isC hC
  exact kw_backE (mc := 0) (ms := 0) (va_runV (As := As) (rest := st) ⟨hx, hb, hml, hown, hts⟩ (hM H.size) (cwV k hts (gw_V vl) rfl hR0.1 hR0.2 hd hR) ⟨fun a U g mk q => by obtain ⟨q0, q4, q1, q2, q3⟩ := q; exact ⟨q0, q4, q1, q2.calling g mk a, q3⟩, va_recv hSK.1 hP hc he, fun U hU hW => ⟨rfl, by rw [hU], by rw [hU]; exact hPc, hSK.moved hW, hDc⟩⟩ rfl hAs hl.1 rfl (lv_room hcat) d ⟨hnz.1, hnz.2⟩) hS hF (fun t H1 locs1 ht hB hz hk hS1 => by
    obtain ⟨hP1, hD1⟩ := hB
    rw [ht] at hP1
    obtain ⟨hP2, hD2⟩ := wput_join hP hD isC hC hn (hf1.trans hf2.symm) hk hP1
    rw [hws] at hP2 hD2
    exact kk H1 locs1 ls hP2 hD2 hS1 hl)
theorem kw_vev (X : KX Γ l rm D ty cc nL own w0) {y : MethodName} {cy : ByteArray} {my idx b ci k : Nat} {ry : Option FieldType} {rc : Room} {C : String} {F : u_T} {N : Nat} {fs : List Value} {As stk : List Value} {wc : va_W} {w1 : va_W} (E : KE Γ) (hM : MEq l y cy my ry rc D ty (.ref b :: As) wc w1 none) (vl : VL own idx C y cy my ry) (hd : YV y C k) (hR : rc.frames + 1 ≤ rm.frames ∧ 8 + (my + 11) + rc.locals ≤ rm.locals) (hR0 : rc.cells = 0 ∧ rc.slots = 0) (hnz : n ≤ rm.cells ∧ z ≤ rm.slots) (q0 : Nat) (he : ws[q0]? = some (b, .inr (ci, fs))) (hc : vwCl[ci]? = some (C, F, N)) (isC : List Nat) (hn : va_nd isC = true) (hC : isC.map (fun i => ws[i]?) = wc.map some) (hst : stk = As.reverse ++ .ref b :: st) (hAs : As.length = k) (hcat : (st.map fun v => v.category).sum ≤ 8) (d : decode cc pc = .ok (.invokevirtual idx, 3)) (as : List Nat) (hf1 : w1.map (·.1) = as) (hf2 : wc.map (·.1) = as) (hws : wput ws isC w1 = ws')
    (kk : KW Γ n z ws' lo (pc + 3) st) : KW Γ n z ws lo pc stk := by
  obtain ⟨p, l', e, R, s, m, args, below, meth, c, Q, D', ty', AD, A, H0, nL'⟩ := Γ
  obtain ⟨rfl, rfl, rfl, rfl, rfl, ⟨hx, hb, hml, hown, hts⟩, hSK⟩ := X
  intro H locs ls hP hD hS hl
  obtain ⟨rfl, hA⟩ := E
  subst hst
  have hC2 : isC.filterMap (fun i => ws[i]?) = wc := by
    have h := congrArg (fun l => l.filterMap id) hC
    simpa [List.filterMap_map, Function.comp_def] using h
  have hPc := hP.sub isC hC2
  have hDc : va_D (fun _ => True) wc := (hD.sub isC hn hC).weaken (fun _ _ _ _ => trivial)
  have hF := va_free (wc := wc) hD hS hA isC hC
  exact kw_backE (mc := 0) (ms := 0) (va_runV (As := As) (rest := st) ⟨hx, hb, hml, hown, hts⟩ (hM H.size) (cwV k hts (gw_V vl) rfl hR0.1 hR0.2 hd hR) ⟨fun a U g mk q => by obtain ⟨q0, q4, q1, q2, q3⟩ := q; exact ⟨q0, q4, q1, q2.calling g mk a, q3⟩, va_recv hSK.1 hP hc he, fun U hU hW => ⟨rfl, by rw [hU], by rw [hU]; exact hPc, hSK.moved hW, hDc⟩⟩ rfl hAs hl.1 rfl (lv_room hcat) d ⟨hnz.1, hnz.2⟩) hS hF (fun t H1 locs1 ht hB hz hk hS1 => by
    obtain ⟨hP1, hD1⟩ := hB
    rw [ht] at hP1
    obtain ⟨hP2, hD2⟩ := wput_join hP hD isC hC hn (hf1.trans hf2.symm) hk hP1
    rw [hws] at hP2 hD2
    exact kk H1 locs1 ls hP2 hD2 hS1 hl)
theorem kw_ap (X : KX Γ l rm D ty cc nL own w0) {y : MethodName} {cy : ByteArray} {my idx b ci k : Nat} {ry : Option FieldType} {rc : Room} {C : String} {F : u_T} {N : Nat} {fs : List Value} {As stk : List Value} {r : Value} (hM : MPi l y cy my ry rc D ty (.ref b :: As) ws r) (vl : VL own idx C y cy my ry) (hd : YV y C k) (hR : rc.frames + 1 ≤ rm.frames ∧ 8 + (my + 11) + rc.locals ≤ rm.locals) (hR0 : rc.cells = 0 ∧ rc.slots = 0) (hnz : n ≤ rm.cells ∧ z ≤ rm.slots) (q0 : Nat) (he : ws[q0]? = some (b, .inr (ci, fs))) (hc : vwCl[ci]? = some (C, F, N)) (hst : stk = As.reverse ++ .ref b :: st) (hAs : As.length = k) (hcat : (st.map fun v => v.category).sum ≤ 8) (d : decode cc pc = .ok (.invokevirtual idx, 3))
    (kk : KW Γ n z ws lo (pc + 3) (r :: st)) : KW Γ n z ws lo pc stk := by
  obtain ⟨p, l', e, R, s, m, args, below, meth, c, Q, D', ty', AD, A, H0, nL'⟩ := Γ
  obtain ⟨rfl, rfl, rfl, rfl, rfl, ⟨hx, hb, hml, hown, hts⟩, hSK⟩ := X
  intro H locs ls hP hD hS hl
  subst hst
  have hPc := hP
  have hDc : va_D (fun _ => True) ws := hD.weaken (fun _ _ _ _ => trivial)
  exact kw_backP (va_runV (As := As) (rest := st) ⟨hx, hb, hml, hown, hts⟩ (hM) (cwV k hts (gw_V vl) rfl hR0.1 hR0.2 hd hR) ⟨fun a U g mk q => by obtain ⟨q0, q1, q2, q3⟩ := q; exact ⟨q0, q1, q2.calling g mk a, q3⟩, va_recv hSK.1 hP hc he, fun U hU hW => ⟨rfl, by rw [hU]; exact hPc, hSK.moved hW, hDc⟩⟩ rfl hAs hl.1 rfl (lv_room hcat) d ⟨hnz.1, hnz.2⟩) hP hS (fun H1 locs1 hP1 hS1 => kk H1 locs1 ls hP1 hD hS1 hl)
theorem kw_aei (X : KX Γ l rm D ty cc nL own w0) {y : MethodName} {cy : ByteArray} {my idx b ci k : Nat} {ry : Option FieldType} {rc : Room} {C : String} {F : u_T} {N : Nat} {fs : List Value} {As stk : List Value} {r : Value} {w1 : va_W} (E : KE Γ) (hM : MEq l y cy my ry rc D ty (.ref b :: As) ws w1 (some r)) (vl : VL own idx C y cy my ry) (hd : YV y C k) (hR : rc.frames + 1 ≤ rm.frames ∧ 8 + (my + 11) + rc.locals ≤ rm.locals) (hR0 : rc.cells = 0 ∧ rc.slots = 0) (hnz : n ≤ rm.cells ∧ z ≤ rm.slots) (q0 : Nat) (he : ws[q0]? = some (b, .inr (ci, fs))) (hc : vwCl[ci]? = some (C, F, N)) (hst : stk = As.reverse ++ .ref b :: st) (hAs : As.length = k) (hcat : (st.map fun v => v.category).sum ≤ 8) (d : decode cc pc = .ok (.invokevirtual idx, 3))
    (kk : KW Γ n z w1 lo (pc + 3) (r :: st)) : KW Γ n z ws lo pc stk := by
  obtain ⟨p, l', e, R, s, m, args, below, meth, c, Q, D', ty', AD, A, H0, nL'⟩ := Γ
  obtain ⟨rfl, rfl, rfl, rfl, rfl, ⟨hx, hb, hml, hown, hts⟩, hSK⟩ := X
  intro H locs ls hP hD hS hl
  obtain ⟨rfl, hA⟩ := E
  subst hst
  have hPc := hP
  have hDc : va_D (fun _ => True) ws := hD.weaken (fun _ _ _ _ => trivial)
  have hF : ∀ q, va_A ws H.size q → AD q := fun q h => h.elim (fun ⟨i, x, hx⟩ => hD.2 i (q, x) hx) (fun h => hA q (Nat.le_trans hS.1 h))
  exact kw_backE (mc := 0) (ms := 0) (wc := ws) (va_runV (As := As) (rest := st) ⟨hx, hb, hml, hown, hts⟩ (hM H.size) (cwV k hts (gw_V vl) rfl hR0.1 hR0.2 hd hR) ⟨fun a U g mk q => by obtain ⟨q0, q4, q1, q2, q3⟩ := q; exact ⟨q0, q4, q1, q2.calling g mk a, q3⟩, va_recv hSK.1 hP hc he, fun U hU hW => ⟨rfl, by rw [hU], by rw [hU]; exact hPc, hSK.moved hW, hDc⟩⟩ rfl hAs hl.1 rfl (lv_room hcat) d ⟨hnz.1, hnz.2⟩) hS hF (fun t H1 locs1 ht hB hz hk hS1 => by
    obtain ⟨hP1, hD1⟩ := hB
    rw [ht] at hP1
    exact kk H1 locs1 ls hP1 (hD1.weaken (fun k q _ h => hF q.1 h)) hS1 hl)
theorem kw_aev (X : KX Γ l rm D ty cc nL own w0) {y : MethodName} {cy : ByteArray} {my idx b ci k : Nat} {ry : Option FieldType} {rc : Room} {C : String} {F : u_T} {N : Nat} {fs : List Value} {As stk : List Value} {w1 : va_W} (E : KE Γ) (hM : MEq l y cy my ry rc D ty (.ref b :: As) ws w1 none) (vl : VL own idx C y cy my ry) (hd : YV y C k) (hR : rc.frames + 1 ≤ rm.frames ∧ 8 + (my + 11) + rc.locals ≤ rm.locals) (hR0 : rc.cells = 0 ∧ rc.slots = 0) (hnz : n ≤ rm.cells ∧ z ≤ rm.slots) (q0 : Nat) (he : ws[q0]? = some (b, .inr (ci, fs))) (hc : vwCl[ci]? = some (C, F, N)) (hst : stk = As.reverse ++ .ref b :: st) (hAs : As.length = k) (hcat : (st.map fun v => v.category).sum ≤ 8) (d : decode cc pc = .ok (.invokevirtual idx, 3))
    (kk : KW Γ n z w1 lo (pc + 3) st) : KW Γ n z ws lo pc stk := by
  obtain ⟨p, l', e, R, s, m, args, below, meth, c, Q, D', ty', AD, A, H0, nL'⟩ := Γ
  obtain ⟨rfl, rfl, rfl, rfl, rfl, ⟨hx, hb, hml, hown, hts⟩, hSK⟩ := X
  intro H locs ls hP hD hS hl
  obtain ⟨rfl, hA⟩ := E
  subst hst
  have hPc := hP
  have hDc : va_D (fun _ => True) ws := hD.weaken (fun _ _ _ _ => trivial)
  have hF : ∀ q, va_A ws H.size q → AD q := fun q h => h.elim (fun ⟨i, x, hx⟩ => hD.2 i (q, x) hx) (fun h => hA q (Nat.le_trans hS.1 h))
  exact kw_backE (mc := 0) (ms := 0) (wc := ws) (va_runV (As := As) (rest := st) ⟨hx, hb, hml, hown, hts⟩ (hM H.size) (cwV k hts (gw_V vl) rfl hR0.1 hR0.2 hd hR) ⟨fun a U g mk q => by obtain ⟨q0, q4, q1, q2, q3⟩ := q; exact ⟨q0, q4, q1, q2.calling g mk a, q3⟩, va_recv hSK.1 hP hc he, fun U hU hW => ⟨rfl, by rw [hU], by rw [hU]; exact hPc, hSK.moved hW, hDc⟩⟩ rfl hAs hl.1 rfl (lv_room hcat) d ⟨hnz.1, hnz.2⟩) hS hF (fun t H1 locs1 ht hB hz hk hS1 => by
    obtain ⟨hP1, hD1⟩ := hB
    rw [ht] at hP1
    exact kk H1 locs1 ls hP1 (hD1.weaken (fun k q _ h => hF q.1 h)) hS1 hl)
end KR
def pl1 {t1 : Type} {g : Type} (a : t1) (k : t1 → g) : g := k a
theorem pl1_ex {t1 : Type} {g : Type} {a : t1} {k : t1 → g} {r : g} (h : pl1 a k = r) : ∃ x1, a = x1 ∧ k x1 = r := ⟨a, rfl, h⟩
def ob1 {t1 : Type} {g : Type} (a : Option (t1)) (k : t1 → Option g) : Option g := a.bind (fun v => k v)
theorem ob1_ex {t1 : Type} {g : Type} {a : Option (t1)} {k : t1 → Option g} {r : g} (h : ob1 a k = some r) : ∃ x1, a = some x1 ∧ k x1 = some r := by
  unfold ob1 at h
  cases a with
  | none => cases h
  | some v => exact ⟨v, rfl, h⟩
def pl2 {t1 : Type} {t2 : Type} {g : Type} (a : t1 × t2) (k : t1 → t2 → g) : g := k a.1 a.2
theorem pl2_ex {t1 : Type} {t2 : Type} {g : Type} {a : t1 × t2} {k : t1 → t2 → g} {r : g} (h : pl2 a k = r) : ∃ x1 x2, a = (x1, x2) ∧ k x1 x2 = r := ⟨a.1, a.2, rfl, h⟩
def ob2 {t1 : Type} {t2 : Type} {g : Type} (a : Option (t1 × t2)) (k : t1 → t2 → Option g) : Option g := a.bind (fun v => k v.1 v.2)
theorem ob2_ex {t1 : Type} {t2 : Type} {g : Type} {a : Option (t1 × t2)} {k : t1 → t2 → Option g} {r : g} (h : ob2 a k = some r) : ∃ x1 x2, a = some (x1, x2) ∧ k x1 x2 = some r := by
  unfold ob2 at h
  cases a with
  | none => cases h
  | some v => exact ⟨v.1, v.2, rfl, h⟩
def pl3 {t1 : Type} {t2 : Type} {t3 : Type} {g : Type} (a : t1 × t2 × t3) (k : t1 → t2 → t3 → g) : g := k a.1 a.2.1 a.2.2
theorem pl3_ex {t1 : Type} {t2 : Type} {t3 : Type} {g : Type} {a : t1 × t2 × t3} {k : t1 → t2 → t3 → g} {r : g} (h : pl3 a k = r) : ∃ x1 x2 x3, a = (x1, x2, x3) ∧ k x1 x2 x3 = r := ⟨a.1, a.2.1, a.2.2, rfl, h⟩
def ob3 {t1 : Type} {t2 : Type} {t3 : Type} {g : Type} (a : Option (t1 × t2 × t3)) (k : t1 → t2 → t3 → Option g) : Option g := a.bind (fun v => k v.1 v.2.1 v.2.2)
theorem ob3_ex {t1 : Type} {t2 : Type} {t3 : Type} {g : Type} {a : Option (t1 × t2 × t3)} {k : t1 → t2 → t3 → Option g} {r : g} (h : ob3 a k = some r) : ∃ x1 x2 x3, a = some (x1, x2, x3) ∧ k x1 x2 x3 = some r := by
  unfold ob3 at h
  cases a with
  | none => cases h
  | some v => exact ⟨v.1, v.2.1, v.2.2, rfl, h⟩
def pl4 {t1 : Type} {t2 : Type} {t3 : Type} {t4 : Type} {g : Type} (a : t1 × t2 × t3 × t4) (k : t1 → t2 → t3 → t4 → g) : g := k a.1 a.2.1 a.2.2.1 a.2.2.2
theorem pl4_ex {t1 : Type} {t2 : Type} {t3 : Type} {t4 : Type} {g : Type} {a : t1 × t2 × t3 × t4} {k : t1 → t2 → t3 → t4 → g} {r : g} (h : pl4 a k = r) : ∃ x1 x2 x3 x4, a = (x1, x2, x3, x4) ∧ k x1 x2 x3 x4 = r := ⟨a.1, a.2.1, a.2.2.1, a.2.2.2, rfl, h⟩
def ob4 {t1 : Type} {t2 : Type} {t3 : Type} {t4 : Type} {g : Type} (a : Option (t1 × t2 × t3 × t4)) (k : t1 → t2 → t3 → t4 → Option g) : Option g := a.bind (fun v => k v.1 v.2.1 v.2.2.1 v.2.2.2)
theorem ob4_ex {t1 : Type} {t2 : Type} {t3 : Type} {t4 : Type} {g : Type} {a : Option (t1 × t2 × t3 × t4)} {k : t1 → t2 → t3 → t4 → Option g} {r : g} (h : ob4 a k = some r) : ∃ x1 x2 x3 x4, a = some (x1, x2, x3, x4) ∧ k x1 x2 x3 x4 = some r := by
  unfold ob4 at h
  cases a with
  | none => cases h
  | some v => exact ⟨v.1, v.2.1, v.2.2.1, v.2.2.2, rfl, h⟩
def pl5 {t1 : Type} {t2 : Type} {t3 : Type} {t4 : Type} {t5 : Type} {g : Type} (a : t1 × t2 × t3 × t4 × t5) (k : t1 → t2 → t3 → t4 → t5 → g) : g := k a.1 a.2.1 a.2.2.1 a.2.2.2.1 a.2.2.2.2
theorem pl5_ex {t1 : Type} {t2 : Type} {t3 : Type} {t4 : Type} {t5 : Type} {g : Type} {a : t1 × t2 × t3 × t4 × t5} {k : t1 → t2 → t3 → t4 → t5 → g} {r : g} (h : pl5 a k = r) : ∃ x1 x2 x3 x4 x5, a = (x1, x2, x3, x4, x5) ∧ k x1 x2 x3 x4 x5 = r := ⟨a.1, a.2.1, a.2.2.1, a.2.2.2.1, a.2.2.2.2, rfl, h⟩
def ob5 {t1 : Type} {t2 : Type} {t3 : Type} {t4 : Type} {t5 : Type} {g : Type} (a : Option (t1 × t2 × t3 × t4 × t5)) (k : t1 → t2 → t3 → t4 → t5 → Option g) : Option g := a.bind (fun v => k v.1 v.2.1 v.2.2.1 v.2.2.2.1 v.2.2.2.2)
theorem ob5_ex {t1 : Type} {t2 : Type} {t3 : Type} {t4 : Type} {t5 : Type} {g : Type} {a : Option (t1 × t2 × t3 × t4 × t5)} {k : t1 → t2 → t3 → t4 → t5 → Option g} {r : g} (h : ob5 a k = some r) : ∃ x1 x2 x3 x4 x5, a = some (x1, x2, x3, x4, x5) ∧ k x1 x2 x3 x4 x5 = some r := by
  unfold ob5 at h
  cases a with
  | none => cases h
  | some v => exact ⟨v.1, v.2.1, v.2.2.1, v.2.2.2.1, v.2.2.2.2, rfl, h⟩
def pl6 {t1 : Type} {t2 : Type} {t3 : Type} {t4 : Type} {t5 : Type} {t6 : Type} {g : Type} (a : t1 × t2 × t3 × t4 × t5 × t6) (k : t1 → t2 → t3 → t4 → t5 → t6 → g) : g := k a.1 a.2.1 a.2.2.1 a.2.2.2.1 a.2.2.2.2.1 a.2.2.2.2.2
theorem pl6_ex {t1 : Type} {t2 : Type} {t3 : Type} {t4 : Type} {t5 : Type} {t6 : Type} {g : Type} {a : t1 × t2 × t3 × t4 × t5 × t6} {k : t1 → t2 → t3 → t4 → t5 → t6 → g} {r : g} (h : pl6 a k = r) : ∃ x1 x2 x3 x4 x5 x6, a = (x1, x2, x3, x4, x5, x6) ∧ k x1 x2 x3 x4 x5 x6 = r := ⟨a.1, a.2.1, a.2.2.1, a.2.2.2.1, a.2.2.2.2.1, a.2.2.2.2.2, rfl, h⟩
def ob6 {t1 : Type} {t2 : Type} {t3 : Type} {t4 : Type} {t5 : Type} {t6 : Type} {g : Type} (a : Option (t1 × t2 × t3 × t4 × t5 × t6)) (k : t1 → t2 → t3 → t4 → t5 → t6 → Option g) : Option g := a.bind (fun v => k v.1 v.2.1 v.2.2.1 v.2.2.2.1 v.2.2.2.2.1 v.2.2.2.2.2)
theorem ob6_ex {t1 : Type} {t2 : Type} {t3 : Type} {t4 : Type} {t5 : Type} {t6 : Type} {g : Type} {a : Option (t1 × t2 × t3 × t4 × t5 × t6)} {k : t1 → t2 → t3 → t4 → t5 → t6 → Option g} {r : g} (h : ob6 a k = some r) : ∃ x1 x2 x3 x4 x5 x6, a = some (x1, x2, x3, x4, x5, x6) ∧ k x1 x2 x3 x4 x5 x6 = some r := by
  unfold ob6 at h
  cases a with
  | none => cases h
  | some v => exact ⟨v.1, v.2.1, v.2.2.1, v.2.2.2.1, v.2.2.2.2.1, v.2.2.2.2.2, rfl, h⟩
def pl7 {t1 : Type} {t2 : Type} {t3 : Type} {t4 : Type} {t5 : Type} {t6 : Type} {t7 : Type} {g : Type} (a : t1 × t2 × t3 × t4 × t5 × t6 × t7) (k : t1 → t2 → t3 → t4 → t5 → t6 → t7 → g) : g := k a.1 a.2.1 a.2.2.1 a.2.2.2.1 a.2.2.2.2.1 a.2.2.2.2.2.1 a.2.2.2.2.2.2
theorem pl7_ex {t1 : Type} {t2 : Type} {t3 : Type} {t4 : Type} {t5 : Type} {t6 : Type} {t7 : Type} {g : Type} {a : t1 × t2 × t3 × t4 × t5 × t6 × t7} {k : t1 → t2 → t3 → t4 → t5 → t6 → t7 → g} {r : g} (h : pl7 a k = r) : ∃ x1 x2 x3 x4 x5 x6 x7, a = (x1, x2, x3, x4, x5, x6, x7) ∧ k x1 x2 x3 x4 x5 x6 x7 = r := ⟨a.1, a.2.1, a.2.2.1, a.2.2.2.1, a.2.2.2.2.1, a.2.2.2.2.2.1, a.2.2.2.2.2.2, rfl, h⟩
def ob7 {t1 : Type} {t2 : Type} {t3 : Type} {t4 : Type} {t5 : Type} {t6 : Type} {t7 : Type} {g : Type} (a : Option (t1 × t2 × t3 × t4 × t5 × t6 × t7)) (k : t1 → t2 → t3 → t4 → t5 → t6 → t7 → Option g) : Option g := a.bind (fun v => k v.1 v.2.1 v.2.2.1 v.2.2.2.1 v.2.2.2.2.1 v.2.2.2.2.2.1 v.2.2.2.2.2.2)
theorem ob7_ex {t1 : Type} {t2 : Type} {t3 : Type} {t4 : Type} {t5 : Type} {t6 : Type} {t7 : Type} {g : Type} {a : Option (t1 × t2 × t3 × t4 × t5 × t6 × t7)} {k : t1 → t2 → t3 → t4 → t5 → t6 → t7 → Option g} {r : g} (h : ob7 a k = some r) : ∃ x1 x2 x3 x4 x5 x6 x7, a = some (x1, x2, x3, x4, x5, x6, x7) ∧ k x1 x2 x3 x4 x5 x6 x7 = some r := by
  unfold ob7 at h
  cases a with
  | none => cases h
  | some v => exact ⟨v.1, v.2.1, v.2.2.1, v.2.2.2.1, v.2.2.2.2.1, v.2.2.2.2.2.1, v.2.2.2.2.2.2, rfl, h⟩
def pl8 {t1 : Type} {t2 : Type} {t3 : Type} {t4 : Type} {t5 : Type} {t6 : Type} {t7 : Type} {t8 : Type} {g : Type} (a : t1 × t2 × t3 × t4 × t5 × t6 × t7 × t8) (k : t1 → t2 → t3 → t4 → t5 → t6 → t7 → t8 → g) : g := k a.1 a.2.1 a.2.2.1 a.2.2.2.1 a.2.2.2.2.1 a.2.2.2.2.2.1 a.2.2.2.2.2.2.1 a.2.2.2.2.2.2.2
theorem pl8_ex {t1 : Type} {t2 : Type} {t3 : Type} {t4 : Type} {t5 : Type} {t6 : Type} {t7 : Type} {t8 : Type} {g : Type} {a : t1 × t2 × t3 × t4 × t5 × t6 × t7 × t8} {k : t1 → t2 → t3 → t4 → t5 → t6 → t7 → t8 → g} {r : g} (h : pl8 a k = r) : ∃ x1 x2 x3 x4 x5 x6 x7 x8, a = (x1, x2, x3, x4, x5, x6, x7, x8) ∧ k x1 x2 x3 x4 x5 x6 x7 x8 = r := ⟨a.1, a.2.1, a.2.2.1, a.2.2.2.1, a.2.2.2.2.1, a.2.2.2.2.2.1, a.2.2.2.2.2.2.1, a.2.2.2.2.2.2.2, rfl, h⟩
def ob8 {t1 : Type} {t2 : Type} {t3 : Type} {t4 : Type} {t5 : Type} {t6 : Type} {t7 : Type} {t8 : Type} {g : Type} (a : Option (t1 × t2 × t3 × t4 × t5 × t6 × t7 × t8)) (k : t1 → t2 → t3 → t4 → t5 → t6 → t7 → t8 → Option g) : Option g := a.bind (fun v => k v.1 v.2.1 v.2.2.1 v.2.2.2.1 v.2.2.2.2.1 v.2.2.2.2.2.1 v.2.2.2.2.2.2.1 v.2.2.2.2.2.2.2)
theorem ob8_ex {t1 : Type} {t2 : Type} {t3 : Type} {t4 : Type} {t5 : Type} {t6 : Type} {t7 : Type} {t8 : Type} {g : Type} {a : Option (t1 × t2 × t3 × t4 × t5 × t6 × t7 × t8)} {k : t1 → t2 → t3 → t4 → t5 → t6 → t7 → t8 → Option g} {r : g} (h : ob8 a k = some r) : ∃ x1 x2 x3 x4 x5 x6 x7 x8, a = some (x1, x2, x3, x4, x5, x6, x7, x8) ∧ k x1 x2 x3 x4 x5 x6 x7 x8 = some r := by
  unfold ob8 at h
  cases a with
  | none => cases h
  | some v => exact ⟨v.1, v.2.1, v.2.2.1, v.2.2.2.1, v.2.2.2.2.1, v.2.2.2.2.2.1, v.2.2.2.2.2.2.1, v.2.2.2.2.2.2.2, rfl, h⟩
def pl9 {t1 : Type} {t2 : Type} {t3 : Type} {t4 : Type} {t5 : Type} {t6 : Type} {t7 : Type} {t8 : Type} {t9 : Type} {g : Type} (a : t1 × t2 × t3 × t4 × t5 × t6 × t7 × t8 × t9) (k : t1 → t2 → t3 → t4 → t5 → t6 → t7 → t8 → t9 → g) : g := k a.1 a.2.1 a.2.2.1 a.2.2.2.1 a.2.2.2.2.1 a.2.2.2.2.2.1 a.2.2.2.2.2.2.1 a.2.2.2.2.2.2.2.1 a.2.2.2.2.2.2.2.2
theorem pl9_ex {t1 : Type} {t2 : Type} {t3 : Type} {t4 : Type} {t5 : Type} {t6 : Type} {t7 : Type} {t8 : Type} {t9 : Type} {g : Type} {a : t1 × t2 × t3 × t4 × t5 × t6 × t7 × t8 × t9} {k : t1 → t2 → t3 → t4 → t5 → t6 → t7 → t8 → t9 → g} {r : g} (h : pl9 a k = r) : ∃ x1 x2 x3 x4 x5 x6 x7 x8 x9, a = (x1, x2, x3, x4, x5, x6, x7, x8, x9) ∧ k x1 x2 x3 x4 x5 x6 x7 x8 x9 = r := ⟨a.1, a.2.1, a.2.2.1, a.2.2.2.1, a.2.2.2.2.1, a.2.2.2.2.2.1, a.2.2.2.2.2.2.1, a.2.2.2.2.2.2.2.1, a.2.2.2.2.2.2.2.2, rfl, h⟩
def ob9 {t1 : Type} {t2 : Type} {t3 : Type} {t4 : Type} {t5 : Type} {t6 : Type} {t7 : Type} {t8 : Type} {t9 : Type} {g : Type} (a : Option (t1 × t2 × t3 × t4 × t5 × t6 × t7 × t8 × t9)) (k : t1 → t2 → t3 → t4 → t5 → t6 → t7 → t8 → t9 → Option g) : Option g := a.bind (fun v => k v.1 v.2.1 v.2.2.1 v.2.2.2.1 v.2.2.2.2.1 v.2.2.2.2.2.1 v.2.2.2.2.2.2.1 v.2.2.2.2.2.2.2.1 v.2.2.2.2.2.2.2.2)
theorem ob9_ex {t1 : Type} {t2 : Type} {t3 : Type} {t4 : Type} {t5 : Type} {t6 : Type} {t7 : Type} {t8 : Type} {t9 : Type} {g : Type} {a : Option (t1 × t2 × t3 × t4 × t5 × t6 × t7 × t8 × t9)} {k : t1 → t2 → t3 → t4 → t5 → t6 → t7 → t8 → t9 → Option g} {r : g} (h : ob9 a k = some r) : ∃ x1 x2 x3 x4 x5 x6 x7 x8 x9, a = some (x1, x2, x3, x4, x5, x6, x7, x8, x9) ∧ k x1 x2 x3 x4 x5 x6 x7 x8 x9 = some r := by
  unfold ob9 at h
  cases a with
  | none => cases h
  | some v => exact ⟨v.1, v.2.1, v.2.2.1, v.2.2.2.1, v.2.2.2.2.1, v.2.2.2.2.2.1, v.2.2.2.2.2.2.1, v.2.2.2.2.2.2.2.1, v.2.2.2.2.2.2.2.2, rfl, h⟩
def pl10 {t1 : Type} {t2 : Type} {t3 : Type} {t4 : Type} {t5 : Type} {t6 : Type} {t7 : Type} {t8 : Type} {t9 : Type} {t10 : Type} {g : Type} (a : t1 × t2 × t3 × t4 × t5 × t6 × t7 × t8 × t9 × t10) (k : t1 → t2 → t3 → t4 → t5 → t6 → t7 → t8 → t9 → t10 → g) : g := k a.1 a.2.1 a.2.2.1 a.2.2.2.1 a.2.2.2.2.1 a.2.2.2.2.2.1 a.2.2.2.2.2.2.1 a.2.2.2.2.2.2.2.1 a.2.2.2.2.2.2.2.2.1 a.2.2.2.2.2.2.2.2.2
theorem pl10_ex {t1 : Type} {t2 : Type} {t3 : Type} {t4 : Type} {t5 : Type} {t6 : Type} {t7 : Type} {t8 : Type} {t9 : Type} {t10 : Type} {g : Type} {a : t1 × t2 × t3 × t4 × t5 × t6 × t7 × t8 × t9 × t10} {k : t1 → t2 → t3 → t4 → t5 → t6 → t7 → t8 → t9 → t10 → g} {r : g} (h : pl10 a k = r) : ∃ x1 x2 x3 x4 x5 x6 x7 x8 x9 x10, a = (x1, x2, x3, x4, x5, x6, x7, x8, x9, x10) ∧ k x1 x2 x3 x4 x5 x6 x7 x8 x9 x10 = r := ⟨a.1, a.2.1, a.2.2.1, a.2.2.2.1, a.2.2.2.2.1, a.2.2.2.2.2.1, a.2.2.2.2.2.2.1, a.2.2.2.2.2.2.2.1, a.2.2.2.2.2.2.2.2.1, a.2.2.2.2.2.2.2.2.2, rfl, h⟩
def ob10 {t1 : Type} {t2 : Type} {t3 : Type} {t4 : Type} {t5 : Type} {t6 : Type} {t7 : Type} {t8 : Type} {t9 : Type} {t10 : Type} {g : Type} (a : Option (t1 × t2 × t3 × t4 × t5 × t6 × t7 × t8 × t9 × t10)) (k : t1 → t2 → t3 → t4 → t5 → t6 → t7 → t8 → t9 → t10 → Option g) : Option g := a.bind (fun v => k v.1 v.2.1 v.2.2.1 v.2.2.2.1 v.2.2.2.2.1 v.2.2.2.2.2.1 v.2.2.2.2.2.2.1 v.2.2.2.2.2.2.2.1 v.2.2.2.2.2.2.2.2.1 v.2.2.2.2.2.2.2.2.2)
theorem ob10_ex {t1 : Type} {t2 : Type} {t3 : Type} {t4 : Type} {t5 : Type} {t6 : Type} {t7 : Type} {t8 : Type} {t9 : Type} {t10 : Type} {g : Type} {a : Option (t1 × t2 × t3 × t4 × t5 × t6 × t7 × t8 × t9 × t10)} {k : t1 → t2 → t3 → t4 → t5 → t6 → t7 → t8 → t9 → t10 → Option g} {r : g} (h : ob10 a k = some r) : ∃ x1 x2 x3 x4 x5 x6 x7 x8 x9 x10, a = some (x1, x2, x3, x4, x5, x6, x7, x8, x9, x10) ∧ k x1 x2 x3 x4 x5 x6 x7 x8 x9 x10 = some r := by
  unfold ob10 at h
  cases a with
  | none => cases h
  | some v => exact ⟨v.1, v.2.1, v.2.2.1, v.2.2.2.1, v.2.2.2.2.1, v.2.2.2.2.2.1, v.2.2.2.2.2.2.1, v.2.2.2.2.2.2.2.1, v.2.2.2.2.2.2.2.2.1, v.2.2.2.2.2.2.2.2.2, rfl, h⟩
def pl11 {t1 : Type} {t2 : Type} {t3 : Type} {t4 : Type} {t5 : Type} {t6 : Type} {t7 : Type} {t8 : Type} {t9 : Type} {t10 : Type} {t11 : Type} {g : Type} (a : t1 × t2 × t3 × t4 × t5 × t6 × t7 × t8 × t9 × t10 × t11) (k : t1 → t2 → t3 → t4 → t5 → t6 → t7 → t8 → t9 → t10 → t11 → g) : g := k a.1 a.2.1 a.2.2.1 a.2.2.2.1 a.2.2.2.2.1 a.2.2.2.2.2.1 a.2.2.2.2.2.2.1 a.2.2.2.2.2.2.2.1 a.2.2.2.2.2.2.2.2.1 a.2.2.2.2.2.2.2.2.2.1 a.2.2.2.2.2.2.2.2.2.2
theorem pl11_ex {t1 : Type} {t2 : Type} {t3 : Type} {t4 : Type} {t5 : Type} {t6 : Type} {t7 : Type} {t8 : Type} {t9 : Type} {t10 : Type} {t11 : Type} {g : Type} {a : t1 × t2 × t3 × t4 × t5 × t6 × t7 × t8 × t9 × t10 × t11} {k : t1 → t2 → t3 → t4 → t5 → t6 → t7 → t8 → t9 → t10 → t11 → g} {r : g} (h : pl11 a k = r) : ∃ x1 x2 x3 x4 x5 x6 x7 x8 x9 x10 x11, a = (x1, x2, x3, x4, x5, x6, x7, x8, x9, x10, x11) ∧ k x1 x2 x3 x4 x5 x6 x7 x8 x9 x10 x11 = r := ⟨a.1, a.2.1, a.2.2.1, a.2.2.2.1, a.2.2.2.2.1, a.2.2.2.2.2.1, a.2.2.2.2.2.2.1, a.2.2.2.2.2.2.2.1, a.2.2.2.2.2.2.2.2.1, a.2.2.2.2.2.2.2.2.2.1, a.2.2.2.2.2.2.2.2.2.2, rfl, h⟩
def ob11 {t1 : Type} {t2 : Type} {t3 : Type} {t4 : Type} {t5 : Type} {t6 : Type} {t7 : Type} {t8 : Type} {t9 : Type} {t10 : Type} {t11 : Type} {g : Type} (a : Option (t1 × t2 × t3 × t4 × t5 × t6 × t7 × t8 × t9 × t10 × t11)) (k : t1 → t2 → t3 → t4 → t5 → t6 → t7 → t8 → t9 → t10 → t11 → Option g) : Option g := a.bind (fun v => k v.1 v.2.1 v.2.2.1 v.2.2.2.1 v.2.2.2.2.1 v.2.2.2.2.2.1 v.2.2.2.2.2.2.1 v.2.2.2.2.2.2.2.1 v.2.2.2.2.2.2.2.2.1 v.2.2.2.2.2.2.2.2.2.1 v.2.2.2.2.2.2.2.2.2.2)
theorem ob11_ex {t1 : Type} {t2 : Type} {t3 : Type} {t4 : Type} {t5 : Type} {t6 : Type} {t7 : Type} {t8 : Type} {t9 : Type} {t10 : Type} {t11 : Type} {g : Type} {a : Option (t1 × t2 × t3 × t4 × t5 × t6 × t7 × t8 × t9 × t10 × t11)} {k : t1 → t2 → t3 → t4 → t5 → t6 → t7 → t8 → t9 → t10 → t11 → Option g} {r : g} (h : ob11 a k = some r) : ∃ x1 x2 x3 x4 x5 x6 x7 x8 x9 x10 x11, a = some (x1, x2, x3, x4, x5, x6, x7, x8, x9, x10, x11) ∧ k x1 x2 x3 x4 x5 x6 x7 x8 x9 x10 x11 = some r := by
  unfold ob11 at h
  cases a with
  | none => cases h
  | some v => exact ⟨v.1, v.2.1, v.2.2.1, v.2.2.2.1, v.2.2.2.2.1, v.2.2.2.2.2.1, v.2.2.2.2.2.2.1, v.2.2.2.2.2.2.2.1, v.2.2.2.2.2.2.2.2.1, v.2.2.2.2.2.2.2.2.2.1, v.2.2.2.2.2.2.2.2.2.2, rfl, h⟩
def pl12 {t1 : Type} {t2 : Type} {t3 : Type} {t4 : Type} {t5 : Type} {t6 : Type} {t7 : Type} {t8 : Type} {t9 : Type} {t10 : Type} {t11 : Type} {t12 : Type} {g : Type} (a : t1 × t2 × t3 × t4 × t5 × t6 × t7 × t8 × t9 × t10 × t11 × t12) (k : t1 → t2 → t3 → t4 → t5 → t6 → t7 → t8 → t9 → t10 → t11 → t12 → g) : g := k a.1 a.2.1 a.2.2.1 a.2.2.2.1 a.2.2.2.2.1 a.2.2.2.2.2.1 a.2.2.2.2.2.2.1 a.2.2.2.2.2.2.2.1 a.2.2.2.2.2.2.2.2.1 a.2.2.2.2.2.2.2.2.2.1 a.2.2.2.2.2.2.2.2.2.2.1 a.2.2.2.2.2.2.2.2.2.2.2
theorem pl12_ex {t1 : Type} {t2 : Type} {t3 : Type} {t4 : Type} {t5 : Type} {t6 : Type} {t7 : Type} {t8 : Type} {t9 : Type} {t10 : Type} {t11 : Type} {t12 : Type} {g : Type} {a : t1 × t2 × t3 × t4 × t5 × t6 × t7 × t8 × t9 × t10 × t11 × t12} {k : t1 → t2 → t3 → t4 → t5 → t6 → t7 → t8 → t9 → t10 → t11 → t12 → g} {r : g} (h : pl12 a k = r) : ∃ x1 x2 x3 x4 x5 x6 x7 x8 x9 x10 x11 x12, a = (x1, x2, x3, x4, x5, x6, x7, x8, x9, x10, x11, x12) ∧ k x1 x2 x3 x4 x5 x6 x7 x8 x9 x10 x11 x12 = r := ⟨a.1, a.2.1, a.2.2.1, a.2.2.2.1, a.2.2.2.2.1, a.2.2.2.2.2.1, a.2.2.2.2.2.2.1, a.2.2.2.2.2.2.2.1, a.2.2.2.2.2.2.2.2.1, a.2.2.2.2.2.2.2.2.2.1, a.2.2.2.2.2.2.2.2.2.2.1, a.2.2.2.2.2.2.2.2.2.2.2, rfl, h⟩
def ob12 {t1 : Type} {t2 : Type} {t3 : Type} {t4 : Type} {t5 : Type} {t6 : Type} {t7 : Type} {t8 : Type} {t9 : Type} {t10 : Type} {t11 : Type} {t12 : Type} {g : Type} (a : Option (t1 × t2 × t3 × t4 × t5 × t6 × t7 × t8 × t9 × t10 × t11 × t12)) (k : t1 → t2 → t3 → t4 → t5 → t6 → t7 → t8 → t9 → t10 → t11 → t12 → Option g) : Option g := a.bind (fun v => k v.1 v.2.1 v.2.2.1 v.2.2.2.1 v.2.2.2.2.1 v.2.2.2.2.2.1 v.2.2.2.2.2.2.1 v.2.2.2.2.2.2.2.1 v.2.2.2.2.2.2.2.2.1 v.2.2.2.2.2.2.2.2.2.1 v.2.2.2.2.2.2.2.2.2.2.1 v.2.2.2.2.2.2.2.2.2.2.2)
theorem ob12_ex {t1 : Type} {t2 : Type} {t3 : Type} {t4 : Type} {t5 : Type} {t6 : Type} {t7 : Type} {t8 : Type} {t9 : Type} {t10 : Type} {t11 : Type} {t12 : Type} {g : Type} {a : Option (t1 × t2 × t3 × t4 × t5 × t6 × t7 × t8 × t9 × t10 × t11 × t12)} {k : t1 → t2 → t3 → t4 → t5 → t6 → t7 → t8 → t9 → t10 → t11 → t12 → Option g} {r : g} (h : ob12 a k = some r) : ∃ x1 x2 x3 x4 x5 x6 x7 x8 x9 x10 x11 x12, a = some (x1, x2, x3, x4, x5, x6, x7, x8, x9, x10, x11, x12) ∧ k x1 x2 x3 x4 x5 x6 x7 x8 x9 x10 x11 x12 = some r := by
  unfold ob12 at h
  cases a with
  | none => cases h
  | some v => exact ⟨v.1, v.2.1, v.2.2.1, v.2.2.2.1, v.2.2.2.2.1, v.2.2.2.2.2.1, v.2.2.2.2.2.2.1, v.2.2.2.2.2.2.2.1, v.2.2.2.2.2.2.2.2.1, v.2.2.2.2.2.2.2.2.2.1, v.2.2.2.2.2.2.2.2.2.2.1, v.2.2.2.2.2.2.2.2.2.2.2, rfl, h⟩
def pl13 {t1 : Type} {t2 : Type} {t3 : Type} {t4 : Type} {t5 : Type} {t6 : Type} {t7 : Type} {t8 : Type} {t9 : Type} {t10 : Type} {t11 : Type} {t12 : Type} {t13 : Type} {g : Type} (a : t1 × t2 × t3 × t4 × t5 × t6 × t7 × t8 × t9 × t10 × t11 × t12 × t13) (k : t1 → t2 → t3 → t4 → t5 → t6 → t7 → t8 → t9 → t10 → t11 → t12 → t13 → g) : g := k a.1 a.2.1 a.2.2.1 a.2.2.2.1 a.2.2.2.2.1 a.2.2.2.2.2.1 a.2.2.2.2.2.2.1 a.2.2.2.2.2.2.2.1 a.2.2.2.2.2.2.2.2.1 a.2.2.2.2.2.2.2.2.2.1 a.2.2.2.2.2.2.2.2.2.2.1 a.2.2.2.2.2.2.2.2.2.2.2.1 a.2.2.2.2.2.2.2.2.2.2.2.2
theorem pl13_ex {t1 : Type} {t2 : Type} {t3 : Type} {t4 : Type} {t5 : Type} {t6 : Type} {t7 : Type} {t8 : Type} {t9 : Type} {t10 : Type} {t11 : Type} {t12 : Type} {t13 : Type} {g : Type} {a : t1 × t2 × t3 × t4 × t5 × t6 × t7 × t8 × t9 × t10 × t11 × t12 × t13} {k : t1 → t2 → t3 → t4 → t5 → t6 → t7 → t8 → t9 → t10 → t11 → t12 → t13 → g} {r : g} (h : pl13 a k = r) : ∃ x1 x2 x3 x4 x5 x6 x7 x8 x9 x10 x11 x12 x13, a = (x1, x2, x3, x4, x5, x6, x7, x8, x9, x10, x11, x12, x13) ∧ k x1 x2 x3 x4 x5 x6 x7 x8 x9 x10 x11 x12 x13 = r := ⟨a.1, a.2.1, a.2.2.1, a.2.2.2.1, a.2.2.2.2.1, a.2.2.2.2.2.1, a.2.2.2.2.2.2.1, a.2.2.2.2.2.2.2.1, a.2.2.2.2.2.2.2.2.1, a.2.2.2.2.2.2.2.2.2.1, a.2.2.2.2.2.2.2.2.2.2.1, a.2.2.2.2.2.2.2.2.2.2.2.1, a.2.2.2.2.2.2.2.2.2.2.2.2, rfl, h⟩
def ob13 {t1 : Type} {t2 : Type} {t3 : Type} {t4 : Type} {t5 : Type} {t6 : Type} {t7 : Type} {t8 : Type} {t9 : Type} {t10 : Type} {t11 : Type} {t12 : Type} {t13 : Type} {g : Type} (a : Option (t1 × t2 × t3 × t4 × t5 × t6 × t7 × t8 × t9 × t10 × t11 × t12 × t13)) (k : t1 → t2 → t3 → t4 → t5 → t6 → t7 → t8 → t9 → t10 → t11 → t12 → t13 → Option g) : Option g := a.bind (fun v => k v.1 v.2.1 v.2.2.1 v.2.2.2.1 v.2.2.2.2.1 v.2.2.2.2.2.1 v.2.2.2.2.2.2.1 v.2.2.2.2.2.2.2.1 v.2.2.2.2.2.2.2.2.1 v.2.2.2.2.2.2.2.2.2.1 v.2.2.2.2.2.2.2.2.2.2.1 v.2.2.2.2.2.2.2.2.2.2.2.1 v.2.2.2.2.2.2.2.2.2.2.2.2)
theorem ob13_ex {t1 : Type} {t2 : Type} {t3 : Type} {t4 : Type} {t5 : Type} {t6 : Type} {t7 : Type} {t8 : Type} {t9 : Type} {t10 : Type} {t11 : Type} {t12 : Type} {t13 : Type} {g : Type} {a : Option (t1 × t2 × t3 × t4 × t5 × t6 × t7 × t8 × t9 × t10 × t11 × t12 × t13)} {k : t1 → t2 → t3 → t4 → t5 → t6 → t7 → t8 → t9 → t10 → t11 → t12 → t13 → Option g} {r : g} (h : ob13 a k = some r) : ∃ x1 x2 x3 x4 x5 x6 x7 x8 x9 x10 x11 x12 x13, a = some (x1, x2, x3, x4, x5, x6, x7, x8, x9, x10, x11, x12, x13) ∧ k x1 x2 x3 x4 x5 x6 x7 x8 x9 x10 x11 x12 x13 = some r := by
  unfold ob13 at h
  cases a with
  | none => cases h
  | some v => exact ⟨v.1, v.2.1, v.2.2.1, v.2.2.2.1, v.2.2.2.2.1, v.2.2.2.2.2.1, v.2.2.2.2.2.2.1, v.2.2.2.2.2.2.2.1, v.2.2.2.2.2.2.2.2.1, v.2.2.2.2.2.2.2.2.2.1, v.2.2.2.2.2.2.2.2.2.2.1, v.2.2.2.2.2.2.2.2.2.2.2.1, v.2.2.2.2.2.2.2.2.2.2.2.2, rfl, h⟩
def pl14 {t1 : Type} {t2 : Type} {t3 : Type} {t4 : Type} {t5 : Type} {t6 : Type} {t7 : Type} {t8 : Type} {t9 : Type} {t10 : Type} {t11 : Type} {t12 : Type} {t13 : Type} {t14 : Type} {g : Type} (a : t1 × t2 × t3 × t4 × t5 × t6 × t7 × t8 × t9 × t10 × t11 × t12 × t13 × t14) (k : t1 → t2 → t3 → t4 → t5 → t6 → t7 → t8 → t9 → t10 → t11 → t12 → t13 → t14 → g) : g := k a.1 a.2.1 a.2.2.1 a.2.2.2.1 a.2.2.2.2.1 a.2.2.2.2.2.1 a.2.2.2.2.2.2.1 a.2.2.2.2.2.2.2.1 a.2.2.2.2.2.2.2.2.1 a.2.2.2.2.2.2.2.2.2.1 a.2.2.2.2.2.2.2.2.2.2.1 a.2.2.2.2.2.2.2.2.2.2.2.1 a.2.2.2.2.2.2.2.2.2.2.2.2.1 a.2.2.2.2.2.2.2.2.2.2.2.2.2
theorem pl14_ex {t1 : Type} {t2 : Type} {t3 : Type} {t4 : Type} {t5 : Type} {t6 : Type} {t7 : Type} {t8 : Type} {t9 : Type} {t10 : Type} {t11 : Type} {t12 : Type} {t13 : Type} {t14 : Type} {g : Type} {a : t1 × t2 × t3 × t4 × t5 × t6 × t7 × t8 × t9 × t10 × t11 × t12 × t13 × t14} {k : t1 → t2 → t3 → t4 → t5 → t6 → t7 → t8 → t9 → t10 → t11 → t12 → t13 → t14 → g} {r : g} (h : pl14 a k = r) : ∃ x1 x2 x3 x4 x5 x6 x7 x8 x9 x10 x11 x12 x13 x14, a = (x1, x2, x3, x4, x5, x6, x7, x8, x9, x10, x11, x12, x13, x14) ∧ k x1 x2 x3 x4 x5 x6 x7 x8 x9 x10 x11 x12 x13 x14 = r := ⟨a.1, a.2.1, a.2.2.1, a.2.2.2.1, a.2.2.2.2.1, a.2.2.2.2.2.1, a.2.2.2.2.2.2.1, a.2.2.2.2.2.2.2.1, a.2.2.2.2.2.2.2.2.1, a.2.2.2.2.2.2.2.2.2.1, a.2.2.2.2.2.2.2.2.2.2.1, a.2.2.2.2.2.2.2.2.2.2.2.1, a.2.2.2.2.2.2.2.2.2.2.2.2.1, a.2.2.2.2.2.2.2.2.2.2.2.2.2, rfl, h⟩
def ob14 {t1 : Type} {t2 : Type} {t3 : Type} {t4 : Type} {t5 : Type} {t6 : Type} {t7 : Type} {t8 : Type} {t9 : Type} {t10 : Type} {t11 : Type} {t12 : Type} {t13 : Type} {t14 : Type} {g : Type} (a : Option (t1 × t2 × t3 × t4 × t5 × t6 × t7 × t8 × t9 × t10 × t11 × t12 × t13 × t14)) (k : t1 → t2 → t3 → t4 → t5 → t6 → t7 → t8 → t9 → t10 → t11 → t12 → t13 → t14 → Option g) : Option g := a.bind (fun v => k v.1 v.2.1 v.2.2.1 v.2.2.2.1 v.2.2.2.2.1 v.2.2.2.2.2.1 v.2.2.2.2.2.2.1 v.2.2.2.2.2.2.2.1 v.2.2.2.2.2.2.2.2.1 v.2.2.2.2.2.2.2.2.2.1 v.2.2.2.2.2.2.2.2.2.2.1 v.2.2.2.2.2.2.2.2.2.2.2.1 v.2.2.2.2.2.2.2.2.2.2.2.2.1 v.2.2.2.2.2.2.2.2.2.2.2.2.2)
theorem ob14_ex {t1 : Type} {t2 : Type} {t3 : Type} {t4 : Type} {t5 : Type} {t6 : Type} {t7 : Type} {t8 : Type} {t9 : Type} {t10 : Type} {t11 : Type} {t12 : Type} {t13 : Type} {t14 : Type} {g : Type} {a : Option (t1 × t2 × t3 × t4 × t5 × t6 × t7 × t8 × t9 × t10 × t11 × t12 × t13 × t14)} {k : t1 → t2 → t3 → t4 → t5 → t6 → t7 → t8 → t9 → t10 → t11 → t12 → t13 → t14 → Option g} {r : g} (h : ob14 a k = some r) : ∃ x1 x2 x3 x4 x5 x6 x7 x8 x9 x10 x11 x12 x13 x14, a = some (x1, x2, x3, x4, x5, x6, x7, x8, x9, x10, x11, x12, x13, x14) ∧ k x1 x2 x3 x4 x5 x6 x7 x8 x9 x10 x11 x12 x13 x14 = some r := by
  unfold ob14 at h
  cases a with
  | none => cases h
  | some v => exact ⟨v.1, v.2.1, v.2.2.1, v.2.2.2.1, v.2.2.2.2.1, v.2.2.2.2.2.1, v.2.2.2.2.2.2.1, v.2.2.2.2.2.2.2.1, v.2.2.2.2.2.2.2.2.1, v.2.2.2.2.2.2.2.2.2.1, v.2.2.2.2.2.2.2.2.2.2.1, v.2.2.2.2.2.2.2.2.2.2.2.1, v.2.2.2.2.2.2.2.2.2.2.2.2.1, v.2.2.2.2.2.2.2.2.2.2.2.2.2, rfl, h⟩
def pl15 {t1 : Type} {t2 : Type} {t3 : Type} {t4 : Type} {t5 : Type} {t6 : Type} {t7 : Type} {t8 : Type} {t9 : Type} {t10 : Type} {t11 : Type} {t12 : Type} {t13 : Type} {t14 : Type} {t15 : Type} {g : Type} (a : t1 × t2 × t3 × t4 × t5 × t6 × t7 × t8 × t9 × t10 × t11 × t12 × t13 × t14 × t15) (k : t1 → t2 → t3 → t4 → t5 → t6 → t7 → t8 → t9 → t10 → t11 → t12 → t13 → t14 → t15 → g) : g := k a.1 a.2.1 a.2.2.1 a.2.2.2.1 a.2.2.2.2.1 a.2.2.2.2.2.1 a.2.2.2.2.2.2.1 a.2.2.2.2.2.2.2.1 a.2.2.2.2.2.2.2.2.1 a.2.2.2.2.2.2.2.2.2.1 a.2.2.2.2.2.2.2.2.2.2.1 a.2.2.2.2.2.2.2.2.2.2.2.1 a.2.2.2.2.2.2.2.2.2.2.2.2.1 a.2.2.2.2.2.2.2.2.2.2.2.2.2.1 a.2.2.2.2.2.2.2.2.2.2.2.2.2.2
theorem pl15_ex {t1 : Type} {t2 : Type} {t3 : Type} {t4 : Type} {t5 : Type} {t6 : Type} {t7 : Type} {t8 : Type} {t9 : Type} {t10 : Type} {t11 : Type} {t12 : Type} {t13 : Type} {t14 : Type} {t15 : Type} {g : Type} {a : t1 × t2 × t3 × t4 × t5 × t6 × t7 × t8 × t9 × t10 × t11 × t12 × t13 × t14 × t15} {k : t1 → t2 → t3 → t4 → t5 → t6 → t7 → t8 → t9 → t10 → t11 → t12 → t13 → t14 → t15 → g} {r : g} (h : pl15 a k = r) : ∃ x1 x2 x3 x4 x5 x6 x7 x8 x9 x10 x11 x12 x13 x14 x15, a = (x1, x2, x3, x4, x5, x6, x7, x8, x9, x10, x11, x12, x13, x14, x15) ∧ k x1 x2 x3 x4 x5 x6 x7 x8 x9 x10 x11 x12 x13 x14 x15 = r := ⟨a.1, a.2.1, a.2.2.1, a.2.2.2.1, a.2.2.2.2.1, a.2.2.2.2.2.1, a.2.2.2.2.2.2.1, a.2.2.2.2.2.2.2.1, a.2.2.2.2.2.2.2.2.1, a.2.2.2.2.2.2.2.2.2.1, a.2.2.2.2.2.2.2.2.2.2.1, a.2.2.2.2.2.2.2.2.2.2.2.1, a.2.2.2.2.2.2.2.2.2.2.2.2.1, a.2.2.2.2.2.2.2.2.2.2.2.2.2.1, a.2.2.2.2.2.2.2.2.2.2.2.2.2.2, rfl, h⟩
def ob15 {t1 : Type} {t2 : Type} {t3 : Type} {t4 : Type} {t5 : Type} {t6 : Type} {t7 : Type} {t8 : Type} {t9 : Type} {t10 : Type} {t11 : Type} {t12 : Type} {t13 : Type} {t14 : Type} {t15 : Type} {g : Type} (a : Option (t1 × t2 × t3 × t4 × t5 × t6 × t7 × t8 × t9 × t10 × t11 × t12 × t13 × t14 × t15)) (k : t1 → t2 → t3 → t4 → t5 → t6 → t7 → t8 → t9 → t10 → t11 → t12 → t13 → t14 → t15 → Option g) : Option g := a.bind (fun v => k v.1 v.2.1 v.2.2.1 v.2.2.2.1 v.2.2.2.2.1 v.2.2.2.2.2.1 v.2.2.2.2.2.2.1 v.2.2.2.2.2.2.2.1 v.2.2.2.2.2.2.2.2.1 v.2.2.2.2.2.2.2.2.2.1 v.2.2.2.2.2.2.2.2.2.2.1 v.2.2.2.2.2.2.2.2.2.2.2.1 v.2.2.2.2.2.2.2.2.2.2.2.2.1 v.2.2.2.2.2.2.2.2.2.2.2.2.2.1 v.2.2.2.2.2.2.2.2.2.2.2.2.2.2)
theorem ob15_ex {t1 : Type} {t2 : Type} {t3 : Type} {t4 : Type} {t5 : Type} {t6 : Type} {t7 : Type} {t8 : Type} {t9 : Type} {t10 : Type} {t11 : Type} {t12 : Type} {t13 : Type} {t14 : Type} {t15 : Type} {g : Type} {a : Option (t1 × t2 × t3 × t4 × t5 × t6 × t7 × t8 × t9 × t10 × t11 × t12 × t13 × t14 × t15)} {k : t1 → t2 → t3 → t4 → t5 → t6 → t7 → t8 → t9 → t10 → t11 → t12 → t13 → t14 → t15 → Option g} {r : g} (h : ob15 a k = some r) : ∃ x1 x2 x3 x4 x5 x6 x7 x8 x9 x10 x11 x12 x13 x14 x15, a = some (x1, x2, x3, x4, x5, x6, x7, x8, x9, x10, x11, x12, x13, x14, x15) ∧ k x1 x2 x3 x4 x5 x6 x7 x8 x9 x10 x11 x12 x13 x14 x15 = some r := by
  unfold ob15 at h
  cases a with
  | none => cases h
  | some v => exact ⟨v.1, v.2.1, v.2.2.1, v.2.2.2.1, v.2.2.2.2.1, v.2.2.2.2.2.1, v.2.2.2.2.2.2.1, v.2.2.2.2.2.2.2.1, v.2.2.2.2.2.2.2.2.1, v.2.2.2.2.2.2.2.2.2.1, v.2.2.2.2.2.2.2.2.2.2.1, v.2.2.2.2.2.2.2.2.2.2.2.1, v.2.2.2.2.2.2.2.2.2.2.2.2.1, v.2.2.2.2.2.2.2.2.2.2.2.2.2.1, v.2.2.2.2.2.2.2.2.2.2.2.2.2.2, rfl, h⟩
def pl16 {t1 : Type} {t2 : Type} {t3 : Type} {t4 : Type} {t5 : Type} {t6 : Type} {t7 : Type} {t8 : Type} {t9 : Type} {t10 : Type} {t11 : Type} {t12 : Type} {t13 : Type} {t14 : Type} {t15 : Type} {t16 : Type} {g : Type} (a : t1 × t2 × t3 × t4 × t5 × t6 × t7 × t8 × t9 × t10 × t11 × t12 × t13 × t14 × t15 × t16) (k : t1 → t2 → t3 → t4 → t5 → t6 → t7 → t8 → t9 → t10 → t11 → t12 → t13 → t14 → t15 → t16 → g) : g := k a.1 a.2.1 a.2.2.1 a.2.2.2.1 a.2.2.2.2.1 a.2.2.2.2.2.1 a.2.2.2.2.2.2.1 a.2.2.2.2.2.2.2.1 a.2.2.2.2.2.2.2.2.1 a.2.2.2.2.2.2.2.2.2.1 a.2.2.2.2.2.2.2.2.2.2.1 a.2.2.2.2.2.2.2.2.2.2.2.1 a.2.2.2.2.2.2.2.2.2.2.2.2.1 a.2.2.2.2.2.2.2.2.2.2.2.2.2.1 a.2.2.2.2.2.2.2.2.2.2.2.2.2.2.1 a.2.2.2.2.2.2.2.2.2.2.2.2.2.2.2
theorem pl16_ex {t1 : Type} {t2 : Type} {t3 : Type} {t4 : Type} {t5 : Type} {t6 : Type} {t7 : Type} {t8 : Type} {t9 : Type} {t10 : Type} {t11 : Type} {t12 : Type} {t13 : Type} {t14 : Type} {t15 : Type} {t16 : Type} {g : Type} {a : t1 × t2 × t3 × t4 × t5 × t6 × t7 × t8 × t9 × t10 × t11 × t12 × t13 × t14 × t15 × t16} {k : t1 → t2 → t3 → t4 → t5 → t6 → t7 → t8 → t9 → t10 → t11 → t12 → t13 → t14 → t15 → t16 → g} {r : g} (h : pl16 a k = r) : ∃ x1 x2 x3 x4 x5 x6 x7 x8 x9 x10 x11 x12 x13 x14 x15 x16, a = (x1, x2, x3, x4, x5, x6, x7, x8, x9, x10, x11, x12, x13, x14, x15, x16) ∧ k x1 x2 x3 x4 x5 x6 x7 x8 x9 x10 x11 x12 x13 x14 x15 x16 = r := ⟨a.1, a.2.1, a.2.2.1, a.2.2.2.1, a.2.2.2.2.1, a.2.2.2.2.2.1, a.2.2.2.2.2.2.1, a.2.2.2.2.2.2.2.1, a.2.2.2.2.2.2.2.2.1, a.2.2.2.2.2.2.2.2.2.1, a.2.2.2.2.2.2.2.2.2.2.1, a.2.2.2.2.2.2.2.2.2.2.2.1, a.2.2.2.2.2.2.2.2.2.2.2.2.1, a.2.2.2.2.2.2.2.2.2.2.2.2.2.1, a.2.2.2.2.2.2.2.2.2.2.2.2.2.2.1, a.2.2.2.2.2.2.2.2.2.2.2.2.2.2.2, rfl, h⟩
def ob16 {t1 : Type} {t2 : Type} {t3 : Type} {t4 : Type} {t5 : Type} {t6 : Type} {t7 : Type} {t8 : Type} {t9 : Type} {t10 : Type} {t11 : Type} {t12 : Type} {t13 : Type} {t14 : Type} {t15 : Type} {t16 : Type} {g : Type} (a : Option (t1 × t2 × t3 × t4 × t5 × t6 × t7 × t8 × t9 × t10 × t11 × t12 × t13 × t14 × t15 × t16)) (k : t1 → t2 → t3 → t4 → t5 → t6 → t7 → t8 → t9 → t10 → t11 → t12 → t13 → t14 → t15 → t16 → Option g) : Option g := a.bind (fun v => k v.1 v.2.1 v.2.2.1 v.2.2.2.1 v.2.2.2.2.1 v.2.2.2.2.2.1 v.2.2.2.2.2.2.1 v.2.2.2.2.2.2.2.1 v.2.2.2.2.2.2.2.2.1 v.2.2.2.2.2.2.2.2.2.1 v.2.2.2.2.2.2.2.2.2.2.1 v.2.2.2.2.2.2.2.2.2.2.2.1 v.2.2.2.2.2.2.2.2.2.2.2.2.1 v.2.2.2.2.2.2.2.2.2.2.2.2.2.1 v.2.2.2.2.2.2.2.2.2.2.2.2.2.2.1 v.2.2.2.2.2.2.2.2.2.2.2.2.2.2.2)
theorem ob16_ex {t1 : Type} {t2 : Type} {t3 : Type} {t4 : Type} {t5 : Type} {t6 : Type} {t7 : Type} {t8 : Type} {t9 : Type} {t10 : Type} {t11 : Type} {t12 : Type} {t13 : Type} {t14 : Type} {t15 : Type} {t16 : Type} {g : Type} {a : Option (t1 × t2 × t3 × t4 × t5 × t6 × t7 × t8 × t9 × t10 × t11 × t12 × t13 × t14 × t15 × t16)} {k : t1 → t2 → t3 → t4 → t5 → t6 → t7 → t8 → t9 → t10 → t11 → t12 → t13 → t14 → t15 → t16 → Option g} {r : g} (h : ob16 a k = some r) : ∃ x1 x2 x3 x4 x5 x6 x7 x8 x9 x10 x11 x12 x13 x14 x15 x16, a = some (x1, x2, x3, x4, x5, x6, x7, x8, x9, x10, x11, x12, x13, x14, x15, x16) ∧ k x1 x2 x3 x4 x5 x6 x7 x8 x9 x10 x11 x12 x13 x14 x15 x16 = some r := by
  unfold ob16 at h
  cases a with
  | none => cases h
  | some v => exact ⟨v.1, v.2.1, v.2.2.1, v.2.2.2.1, v.2.2.2.2.1, v.2.2.2.2.2.1, v.2.2.2.2.2.2.1, v.2.2.2.2.2.2.2.1, v.2.2.2.2.2.2.2.2.1, v.2.2.2.2.2.2.2.2.2.1, v.2.2.2.2.2.2.2.2.2.2.1, v.2.2.2.2.2.2.2.2.2.2.2.1, v.2.2.2.2.2.2.2.2.2.2.2.2.1, v.2.2.2.2.2.2.2.2.2.2.2.2.2.1, v.2.2.2.2.2.2.2.2.2.2.2.2.2.2.1, v.2.2.2.2.2.2.2.2.2.2.2.2.2.2.2, rfl, h⟩
def pl17 {t1 : Type} {t2 : Type} {t3 : Type} {t4 : Type} {t5 : Type} {t6 : Type} {t7 : Type} {t8 : Type} {t9 : Type} {t10 : Type} {t11 : Type} {t12 : Type} {t13 : Type} {t14 : Type} {t15 : Type} {t16 : Type} {t17 : Type} {g : Type} (a : t1 × t2 × t3 × t4 × t5 × t6 × t7 × t8 × t9 × t10 × t11 × t12 × t13 × t14 × t15 × t16 × t17) (k : t1 → t2 → t3 → t4 → t5 → t6 → t7 → t8 → t9 → t10 → t11 → t12 → t13 → t14 → t15 → t16 → t17 → g) : g := k a.1 a.2.1 a.2.2.1 a.2.2.2.1 a.2.2.2.2.1 a.2.2.2.2.2.1 a.2.2.2.2.2.2.1 a.2.2.2.2.2.2.2.1 a.2.2.2.2.2.2.2.2.1 a.2.2.2.2.2.2.2.2.2.1 a.2.2.2.2.2.2.2.2.2.2.1 a.2.2.2.2.2.2.2.2.2.2.2.1 a.2.2.2.2.2.2.2.2.2.2.2.2.1 a.2.2.2.2.2.2.2.2.2.2.2.2.2.1 a.2.2.2.2.2.2.2.2.2.2.2.2.2.2.1 a.2.2.2.2.2.2.2.2.2.2.2.2.2.2.2.1 a.2.2.2.2.2.2.2.2.2.2.2.2.2.2.2.2
theorem pl17_ex {t1 : Type} {t2 : Type} {t3 : Type} {t4 : Type} {t5 : Type} {t6 : Type} {t7 : Type} {t8 : Type} {t9 : Type} {t10 : Type} {t11 : Type} {t12 : Type} {t13 : Type} {t14 : Type} {t15 : Type} {t16 : Type} {t17 : Type} {g : Type} {a : t1 × t2 × t3 × t4 × t5 × t6 × t7 × t8 × t9 × t10 × t11 × t12 × t13 × t14 × t15 × t16 × t17} {k : t1 → t2 → t3 → t4 → t5 → t6 → t7 → t8 → t9 → t10 → t11 → t12 → t13 → t14 → t15 → t16 → t17 → g} {r : g} (h : pl17 a k = r) : ∃ x1 x2 x3 x4 x5 x6 x7 x8 x9 x10 x11 x12 x13 x14 x15 x16 x17, a = (x1, x2, x3, x4, x5, x6, x7, x8, x9, x10, x11, x12, x13, x14, x15, x16, x17) ∧ k x1 x2 x3 x4 x5 x6 x7 x8 x9 x10 x11 x12 x13 x14 x15 x16 x17 = r := ⟨a.1, a.2.1, a.2.2.1, a.2.2.2.1, a.2.2.2.2.1, a.2.2.2.2.2.1, a.2.2.2.2.2.2.1, a.2.2.2.2.2.2.2.1, a.2.2.2.2.2.2.2.2.1, a.2.2.2.2.2.2.2.2.2.1, a.2.2.2.2.2.2.2.2.2.2.1, a.2.2.2.2.2.2.2.2.2.2.2.1, a.2.2.2.2.2.2.2.2.2.2.2.2.1, a.2.2.2.2.2.2.2.2.2.2.2.2.2.1, a.2.2.2.2.2.2.2.2.2.2.2.2.2.2.1, a.2.2.2.2.2.2.2.2.2.2.2.2.2.2.2.1, a.2.2.2.2.2.2.2.2.2.2.2.2.2.2.2.2, rfl, h⟩
def ob17 {t1 : Type} {t2 : Type} {t3 : Type} {t4 : Type} {t5 : Type} {t6 : Type} {t7 : Type} {t8 : Type} {t9 : Type} {t10 : Type} {t11 : Type} {t12 : Type} {t13 : Type} {t14 : Type} {t15 : Type} {t16 : Type} {t17 : Type} {g : Type} (a : Option (t1 × t2 × t3 × t4 × t5 × t6 × t7 × t8 × t9 × t10 × t11 × t12 × t13 × t14 × t15 × t16 × t17)) (k : t1 → t2 → t3 → t4 → t5 → t6 → t7 → t8 → t9 → t10 → t11 → t12 → t13 → t14 → t15 → t16 → t17 → Option g) : Option g := a.bind (fun v => k v.1 v.2.1 v.2.2.1 v.2.2.2.1 v.2.2.2.2.1 v.2.2.2.2.2.1 v.2.2.2.2.2.2.1 v.2.2.2.2.2.2.2.1 v.2.2.2.2.2.2.2.2.1 v.2.2.2.2.2.2.2.2.2.1 v.2.2.2.2.2.2.2.2.2.2.1 v.2.2.2.2.2.2.2.2.2.2.2.1 v.2.2.2.2.2.2.2.2.2.2.2.2.1 v.2.2.2.2.2.2.2.2.2.2.2.2.2.1 v.2.2.2.2.2.2.2.2.2.2.2.2.2.2.1 v.2.2.2.2.2.2.2.2.2.2.2.2.2.2.2.1 v.2.2.2.2.2.2.2.2.2.2.2.2.2.2.2.2)
theorem ob17_ex {t1 : Type} {t2 : Type} {t3 : Type} {t4 : Type} {t5 : Type} {t6 : Type} {t7 : Type} {t8 : Type} {t9 : Type} {t10 : Type} {t11 : Type} {t12 : Type} {t13 : Type} {t14 : Type} {t15 : Type} {t16 : Type} {t17 : Type} {g : Type} {a : Option (t1 × t2 × t3 × t4 × t5 × t6 × t7 × t8 × t9 × t10 × t11 × t12 × t13 × t14 × t15 × t16 × t17)} {k : t1 → t2 → t3 → t4 → t5 → t6 → t7 → t8 → t9 → t10 → t11 → t12 → t13 → t14 → t15 → t16 → t17 → Option g} {r : g} (h : ob17 a k = some r) : ∃ x1 x2 x3 x4 x5 x6 x7 x8 x9 x10 x11 x12 x13 x14 x15 x16 x17, a = some (x1, x2, x3, x4, x5, x6, x7, x8, x9, x10, x11, x12, x13, x14, x15, x16, x17) ∧ k x1 x2 x3 x4 x5 x6 x7 x8 x9 x10 x11 x12 x13 x14 x15 x16 x17 = some r := by
  unfold ob17 at h
  cases a with
  | none => cases h
  | some v => exact ⟨v.1, v.2.1, v.2.2.1, v.2.2.2.1, v.2.2.2.2.1, v.2.2.2.2.2.1, v.2.2.2.2.2.2.1, v.2.2.2.2.2.2.2.1, v.2.2.2.2.2.2.2.2.1, v.2.2.2.2.2.2.2.2.2.1, v.2.2.2.2.2.2.2.2.2.2.1, v.2.2.2.2.2.2.2.2.2.2.2.1, v.2.2.2.2.2.2.2.2.2.2.2.2.1, v.2.2.2.2.2.2.2.2.2.2.2.2.2.1, v.2.2.2.2.2.2.2.2.2.2.2.2.2.2.1, v.2.2.2.2.2.2.2.2.2.2.2.2.2.2.2.1, v.2.2.2.2.2.2.2.2.2.2.2.2.2.2.2.2, rfl, h⟩
theorem si1 {t1 : Type} {a1 b1 : t1} (h : some a1 = some b1) : a1 = b1 := by
  cases h
  exact rfl
theorem ti1 {t1 : Type} {a1 b1 : t1} (h : a1 = b1) : a1 = b1 := by
  cases h
  exact rfl
theorem si2 {t1 : Type} {t2 : Type} {a1 b1 : t1} {a2 b2 : t2} (h : some (a1, a2) = some (b1, b2)) : a1 = b1 ∧ a2 = b2 := by
  cases h
  exact ⟨rfl, rfl⟩
theorem ti2 {t1 : Type} {t2 : Type} {a1 b1 : t1} {a2 b2 : t2} (h : (a1, a2) = (b1, b2)) : a1 = b1 ∧ a2 = b2 := by
  cases h
  exact ⟨rfl, rfl⟩
theorem si3 {t1 : Type} {t2 : Type} {t3 : Type} {a1 b1 : t1} {a2 b2 : t2} {a3 b3 : t3} (h : some (a1, a2, a3) = some (b1, b2, b3)) : a1 = b1 ∧ a2 = b2 ∧ a3 = b3 := by
  cases h
  exact ⟨rfl, rfl, rfl⟩
theorem ti3 {t1 : Type} {t2 : Type} {t3 : Type} {a1 b1 : t1} {a2 b2 : t2} {a3 b3 : t3} (h : (a1, a2, a3) = (b1, b2, b3)) : a1 = b1 ∧ a2 = b2 ∧ a3 = b3 := by
  cases h
  exact ⟨rfl, rfl, rfl⟩
theorem si4 {t1 : Type} {t2 : Type} {t3 : Type} {t4 : Type} {a1 b1 : t1} {a2 b2 : t2} {a3 b3 : t3} {a4 b4 : t4} (h : some (a1, a2, a3, a4) = some (b1, b2, b3, b4)) : a1 = b1 ∧ a2 = b2 ∧ a3 = b3 ∧ a4 = b4 := by
  cases h
  exact ⟨rfl, rfl, rfl, rfl⟩
theorem ti4 {t1 : Type} {t2 : Type} {t3 : Type} {t4 : Type} {a1 b1 : t1} {a2 b2 : t2} {a3 b3 : t3} {a4 b4 : t4} (h : (a1, a2, a3, a4) = (b1, b2, b3, b4)) : a1 = b1 ∧ a2 = b2 ∧ a3 = b3 ∧ a4 = b4 := by
  cases h
  exact ⟨rfl, rfl, rfl, rfl⟩
theorem si5 {t1 : Type} {t2 : Type} {t3 : Type} {t4 : Type} {t5 : Type} {a1 b1 : t1} {a2 b2 : t2} {a3 b3 : t3} {a4 b4 : t4} {a5 b5 : t5} (h : some (a1, a2, a3, a4, a5) = some (b1, b2, b3, b4, b5)) : a1 = b1 ∧ a2 = b2 ∧ a3 = b3 ∧ a4 = b4 ∧ a5 = b5 := by
  cases h
  exact ⟨rfl, rfl, rfl, rfl, rfl⟩
theorem ti5 {t1 : Type} {t2 : Type} {t3 : Type} {t4 : Type} {t5 : Type} {a1 b1 : t1} {a2 b2 : t2} {a3 b3 : t3} {a4 b4 : t4} {a5 b5 : t5} (h : (a1, a2, a3, a4, a5) = (b1, b2, b3, b4, b5)) : a1 = b1 ∧ a2 = b2 ∧ a3 = b3 ∧ a4 = b4 ∧ a5 = b5 := by
  cases h
  exact ⟨rfl, rfl, rfl, rfl, rfl⟩
theorem si6 {t1 : Type} {t2 : Type} {t3 : Type} {t4 : Type} {t5 : Type} {t6 : Type} {a1 b1 : t1} {a2 b2 : t2} {a3 b3 : t3} {a4 b4 : t4} {a5 b5 : t5} {a6 b6 : t6} (h : some (a1, a2, a3, a4, a5, a6) = some (b1, b2, b3, b4, b5, b6)) : a1 = b1 ∧ a2 = b2 ∧ a3 = b3 ∧ a4 = b4 ∧ a5 = b5 ∧ a6 = b6 := by
  cases h
  exact ⟨rfl, rfl, rfl, rfl, rfl, rfl⟩
theorem ti6 {t1 : Type} {t2 : Type} {t3 : Type} {t4 : Type} {t5 : Type} {t6 : Type} {a1 b1 : t1} {a2 b2 : t2} {a3 b3 : t3} {a4 b4 : t4} {a5 b5 : t5} {a6 b6 : t6} (h : (a1, a2, a3, a4, a5, a6) = (b1, b2, b3, b4, b5, b6)) : a1 = b1 ∧ a2 = b2 ∧ a3 = b3 ∧ a4 = b4 ∧ a5 = b5 ∧ a6 = b6 := by
  cases h
  exact ⟨rfl, rfl, rfl, rfl, rfl, rfl⟩
theorem si7 {t1 : Type} {t2 : Type} {t3 : Type} {t4 : Type} {t5 : Type} {t6 : Type} {t7 : Type} {a1 b1 : t1} {a2 b2 : t2} {a3 b3 : t3} {a4 b4 : t4} {a5 b5 : t5} {a6 b6 : t6} {a7 b7 : t7} (h : some (a1, a2, a3, a4, a5, a6, a7) = some (b1, b2, b3, b4, b5, b6, b7)) : a1 = b1 ∧ a2 = b2 ∧ a3 = b3 ∧ a4 = b4 ∧ a5 = b5 ∧ a6 = b6 ∧ a7 = b7 := by
  cases h
  exact ⟨rfl, rfl, rfl, rfl, rfl, rfl, rfl⟩
theorem ti7 {t1 : Type} {t2 : Type} {t3 : Type} {t4 : Type} {t5 : Type} {t6 : Type} {t7 : Type} {a1 b1 : t1} {a2 b2 : t2} {a3 b3 : t3} {a4 b4 : t4} {a5 b5 : t5} {a6 b6 : t6} {a7 b7 : t7} (h : (a1, a2, a3, a4, a5, a6, a7) = (b1, b2, b3, b4, b5, b6, b7)) : a1 = b1 ∧ a2 = b2 ∧ a3 = b3 ∧ a4 = b4 ∧ a5 = b5 ∧ a6 = b6 ∧ a7 = b7 := by
  cases h
  exact ⟨rfl, rfl, rfl, rfl, rfl, rfl, rfl⟩
theorem si8 {t1 : Type} {t2 : Type} {t3 : Type} {t4 : Type} {t5 : Type} {t6 : Type} {t7 : Type} {t8 : Type} {a1 b1 : t1} {a2 b2 : t2} {a3 b3 : t3} {a4 b4 : t4} {a5 b5 : t5} {a6 b6 : t6} {a7 b7 : t7} {a8 b8 : t8} (h : some (a1, a2, a3, a4, a5, a6, a7, a8) = some (b1, b2, b3, b4, b5, b6, b7, b8)) : a1 = b1 ∧ a2 = b2 ∧ a3 = b3 ∧ a4 = b4 ∧ a5 = b5 ∧ a6 = b6 ∧ a7 = b7 ∧ a8 = b8 := by
  cases h
  exact ⟨rfl, rfl, rfl, rfl, rfl, rfl, rfl, rfl⟩
theorem ti8 {t1 : Type} {t2 : Type} {t3 : Type} {t4 : Type} {t5 : Type} {t6 : Type} {t7 : Type} {t8 : Type} {a1 b1 : t1} {a2 b2 : t2} {a3 b3 : t3} {a4 b4 : t4} {a5 b5 : t5} {a6 b6 : t6} {a7 b7 : t7} {a8 b8 : t8} (h : (a1, a2, a3, a4, a5, a6, a7, a8) = (b1, b2, b3, b4, b5, b6, b7, b8)) : a1 = b1 ∧ a2 = b2 ∧ a3 = b3 ∧ a4 = b4 ∧ a5 = b5 ∧ a6 = b6 ∧ a7 = b7 ∧ a8 = b8 := by
  cases h
  exact ⟨rfl, rfl, rfl, rfl, rfl, rfl, rfl, rfl⟩
theorem si9 {t1 : Type} {t2 : Type} {t3 : Type} {t4 : Type} {t5 : Type} {t6 : Type} {t7 : Type} {t8 : Type} {t9 : Type} {a1 b1 : t1} {a2 b2 : t2} {a3 b3 : t3} {a4 b4 : t4} {a5 b5 : t5} {a6 b6 : t6} {a7 b7 : t7} {a8 b8 : t8} {a9 b9 : t9} (h : some (a1, a2, a3, a4, a5, a6, a7, a8, a9) = some (b1, b2, b3, b4, b5, b6, b7, b8, b9)) : a1 = b1 ∧ a2 = b2 ∧ a3 = b3 ∧ a4 = b4 ∧ a5 = b5 ∧ a6 = b6 ∧ a7 = b7 ∧ a8 = b8 ∧ a9 = b9 := by
  cases h
  exact ⟨rfl, rfl, rfl, rfl, rfl, rfl, rfl, rfl, rfl⟩
theorem ti9 {t1 : Type} {t2 : Type} {t3 : Type} {t4 : Type} {t5 : Type} {t6 : Type} {t7 : Type} {t8 : Type} {t9 : Type} {a1 b1 : t1} {a2 b2 : t2} {a3 b3 : t3} {a4 b4 : t4} {a5 b5 : t5} {a6 b6 : t6} {a7 b7 : t7} {a8 b8 : t8} {a9 b9 : t9} (h : (a1, a2, a3, a4, a5, a6, a7, a8, a9) = (b1, b2, b3, b4, b5, b6, b7, b8, b9)) : a1 = b1 ∧ a2 = b2 ∧ a3 = b3 ∧ a4 = b4 ∧ a5 = b5 ∧ a6 = b6 ∧ a7 = b7 ∧ a8 = b8 ∧ a9 = b9 := by
  cases h
  exact ⟨rfl, rfl, rfl, rfl, rfl, rfl, rfl, rfl, rfl⟩
theorem si10 {t1 : Type} {t2 : Type} {t3 : Type} {t4 : Type} {t5 : Type} {t6 : Type} {t7 : Type} {t8 : Type} {t9 : Type} {t10 : Type} {a1 b1 : t1} {a2 b2 : t2} {a3 b3 : t3} {a4 b4 : t4} {a5 b5 : t5} {a6 b6 : t6} {a7 b7 : t7} {a8 b8 : t8} {a9 b9 : t9} {a10 b10 : t10} (h : some (a1, a2, a3, a4, a5, a6, a7, a8, a9, a10) = some (b1, b2, b3, b4, b5, b6, b7, b8, b9, b10)) : a1 = b1 ∧ a2 = b2 ∧ a3 = b3 ∧ a4 = b4 ∧ a5 = b5 ∧ a6 = b6 ∧ a7 = b7 ∧ a8 = b8 ∧ a9 = b9 ∧ a10 = b10 := by
  cases h
  exact ⟨rfl, rfl, rfl, rfl, rfl, rfl, rfl, rfl, rfl, rfl⟩
theorem ti10 {t1 : Type} {t2 : Type} {t3 : Type} {t4 : Type} {t5 : Type} {t6 : Type} {t7 : Type} {t8 : Type} {t9 : Type} {t10 : Type} {a1 b1 : t1} {a2 b2 : t2} {a3 b3 : t3} {a4 b4 : t4} {a5 b5 : t5} {a6 b6 : t6} {a7 b7 : t7} {a8 b8 : t8} {a9 b9 : t9} {a10 b10 : t10} (h : (a1, a2, a3, a4, a5, a6, a7, a8, a9, a10) = (b1, b2, b3, b4, b5, b6, b7, b8, b9, b10)) : a1 = b1 ∧ a2 = b2 ∧ a3 = b3 ∧ a4 = b4 ∧ a5 = b5 ∧ a6 = b6 ∧ a7 = b7 ∧ a8 = b8 ∧ a9 = b9 ∧ a10 = b10 := by
  cases h
  exact ⟨rfl, rfl, rfl, rfl, rfl, rfl, rfl, rfl, rfl, rfl⟩
theorem si11 {t1 : Type} {t2 : Type} {t3 : Type} {t4 : Type} {t5 : Type} {t6 : Type} {t7 : Type} {t8 : Type} {t9 : Type} {t10 : Type} {t11 : Type} {a1 b1 : t1} {a2 b2 : t2} {a3 b3 : t3} {a4 b4 : t4} {a5 b5 : t5} {a6 b6 : t6} {a7 b7 : t7} {a8 b8 : t8} {a9 b9 : t9} {a10 b10 : t10} {a11 b11 : t11} (h : some (a1, a2, a3, a4, a5, a6, a7, a8, a9, a10, a11) = some (b1, b2, b3, b4, b5, b6, b7, b8, b9, b10, b11)) : a1 = b1 ∧ a2 = b2 ∧ a3 = b3 ∧ a4 = b4 ∧ a5 = b5 ∧ a6 = b6 ∧ a7 = b7 ∧ a8 = b8 ∧ a9 = b9 ∧ a10 = b10 ∧ a11 = b11 := by
  cases h
  exact ⟨rfl, rfl, rfl, rfl, rfl, rfl, rfl, rfl, rfl, rfl, rfl⟩
theorem ti11 {t1 : Type} {t2 : Type} {t3 : Type} {t4 : Type} {t5 : Type} {t6 : Type} {t7 : Type} {t8 : Type} {t9 : Type} {t10 : Type} {t11 : Type} {a1 b1 : t1} {a2 b2 : t2} {a3 b3 : t3} {a4 b4 : t4} {a5 b5 : t5} {a6 b6 : t6} {a7 b7 : t7} {a8 b8 : t8} {a9 b9 : t9} {a10 b10 : t10} {a11 b11 : t11} (h : (a1, a2, a3, a4, a5, a6, a7, a8, a9, a10, a11) = (b1, b2, b3, b4, b5, b6, b7, b8, b9, b10, b11)) : a1 = b1 ∧ a2 = b2 ∧ a3 = b3 ∧ a4 = b4 ∧ a5 = b5 ∧ a6 = b6 ∧ a7 = b7 ∧ a8 = b8 ∧ a9 = b9 ∧ a10 = b10 ∧ a11 = b11 := by
  cases h
  exact ⟨rfl, rfl, rfl, rfl, rfl, rfl, rfl, rfl, rfl, rfl, rfl⟩
theorem si12 {t1 : Type} {t2 : Type} {t3 : Type} {t4 : Type} {t5 : Type} {t6 : Type} {t7 : Type} {t8 : Type} {t9 : Type} {t10 : Type} {t11 : Type} {t12 : Type} {a1 b1 : t1} {a2 b2 : t2} {a3 b3 : t3} {a4 b4 : t4} {a5 b5 : t5} {a6 b6 : t6} {a7 b7 : t7} {a8 b8 : t8} {a9 b9 : t9} {a10 b10 : t10} {a11 b11 : t11} {a12 b12 : t12} (h : some (a1, a2, a3, a4, a5, a6, a7, a8, a9, a10, a11, a12) = some (b1, b2, b3, b4, b5, b6, b7, b8, b9, b10, b11, b12)) : a1 = b1 ∧ a2 = b2 ∧ a3 = b3 ∧ a4 = b4 ∧ a5 = b5 ∧ a6 = b6 ∧ a7 = b7 ∧ a8 = b8 ∧ a9 = b9 ∧ a10 = b10 ∧ a11 = b11 ∧ a12 = b12 := by
  cases h
  exact ⟨rfl, rfl, rfl, rfl, rfl, rfl, rfl, rfl, rfl, rfl, rfl, rfl⟩
theorem ti12 {t1 : Type} {t2 : Type} {t3 : Type} {t4 : Type} {t5 : Type} {t6 : Type} {t7 : Type} {t8 : Type} {t9 : Type} {t10 : Type} {t11 : Type} {t12 : Type} {a1 b1 : t1} {a2 b2 : t2} {a3 b3 : t3} {a4 b4 : t4} {a5 b5 : t5} {a6 b6 : t6} {a7 b7 : t7} {a8 b8 : t8} {a9 b9 : t9} {a10 b10 : t10} {a11 b11 : t11} {a12 b12 : t12} (h : (a1, a2, a3, a4, a5, a6, a7, a8, a9, a10, a11, a12) = (b1, b2, b3, b4, b5, b6, b7, b8, b9, b10, b11, b12)) : a1 = b1 ∧ a2 = b2 ∧ a3 = b3 ∧ a4 = b4 ∧ a5 = b5 ∧ a6 = b6 ∧ a7 = b7 ∧ a8 = b8 ∧ a9 = b9 ∧ a10 = b10 ∧ a11 = b11 ∧ a12 = b12 := by
  cases h
  exact ⟨rfl, rfl, rfl, rfl, rfl, rfl, rfl, rfl, rfl, rfl, rfl, rfl⟩
theorem si13 {t1 : Type} {t2 : Type} {t3 : Type} {t4 : Type} {t5 : Type} {t6 : Type} {t7 : Type} {t8 : Type} {t9 : Type} {t10 : Type} {t11 : Type} {t12 : Type} {t13 : Type} {a1 b1 : t1} {a2 b2 : t2} {a3 b3 : t3} {a4 b4 : t4} {a5 b5 : t5} {a6 b6 : t6} {a7 b7 : t7} {a8 b8 : t8} {a9 b9 : t9} {a10 b10 : t10} {a11 b11 : t11} {a12 b12 : t12} {a13 b13 : t13} (h : some (a1, a2, a3, a4, a5, a6, a7, a8, a9, a10, a11, a12, a13) = some (b1, b2, b3, b4, b5, b6, b7, b8, b9, b10, b11, b12, b13)) : a1 = b1 ∧ a2 = b2 ∧ a3 = b3 ∧ a4 = b4 ∧ a5 = b5 ∧ a6 = b6 ∧ a7 = b7 ∧ a8 = b8 ∧ a9 = b9 ∧ a10 = b10 ∧ a11 = b11 ∧ a12 = b12 ∧ a13 = b13 := by
  cases h
  exact ⟨rfl, rfl, rfl, rfl, rfl, rfl, rfl, rfl, rfl, rfl, rfl, rfl, rfl⟩
theorem ti13 {t1 : Type} {t2 : Type} {t3 : Type} {t4 : Type} {t5 : Type} {t6 : Type} {t7 : Type} {t8 : Type} {t9 : Type} {t10 : Type} {t11 : Type} {t12 : Type} {t13 : Type} {a1 b1 : t1} {a2 b2 : t2} {a3 b3 : t3} {a4 b4 : t4} {a5 b5 : t5} {a6 b6 : t6} {a7 b7 : t7} {a8 b8 : t8} {a9 b9 : t9} {a10 b10 : t10} {a11 b11 : t11} {a12 b12 : t12} {a13 b13 : t13} (h : (a1, a2, a3, a4, a5, a6, a7, a8, a9, a10, a11, a12, a13) = (b1, b2, b3, b4, b5, b6, b7, b8, b9, b10, b11, b12, b13)) : a1 = b1 ∧ a2 = b2 ∧ a3 = b3 ∧ a4 = b4 ∧ a5 = b5 ∧ a6 = b6 ∧ a7 = b7 ∧ a8 = b8 ∧ a9 = b9 ∧ a10 = b10 ∧ a11 = b11 ∧ a12 = b12 ∧ a13 = b13 := by
  cases h
  exact ⟨rfl, rfl, rfl, rfl, rfl, rfl, rfl, rfl, rfl, rfl, rfl, rfl, rfl⟩
theorem si14 {t1 : Type} {t2 : Type} {t3 : Type} {t4 : Type} {t5 : Type} {t6 : Type} {t7 : Type} {t8 : Type} {t9 : Type} {t10 : Type} {t11 : Type} {t12 : Type} {t13 : Type} {t14 : Type} {a1 b1 : t1} {a2 b2 : t2} {a3 b3 : t3} {a4 b4 : t4} {a5 b5 : t5} {a6 b6 : t6} {a7 b7 : t7} {a8 b8 : t8} {a9 b9 : t9} {a10 b10 : t10} {a11 b11 : t11} {a12 b12 : t12} {a13 b13 : t13} {a14 b14 : t14} (h : some (a1, a2, a3, a4, a5, a6, a7, a8, a9, a10, a11, a12, a13, a14) = some (b1, b2, b3, b4, b5, b6, b7, b8, b9, b10, b11, b12, b13, b14)) : a1 = b1 ∧ a2 = b2 ∧ a3 = b3 ∧ a4 = b4 ∧ a5 = b5 ∧ a6 = b6 ∧ a7 = b7 ∧ a8 = b8 ∧ a9 = b9 ∧ a10 = b10 ∧ a11 = b11 ∧ a12 = b12 ∧ a13 = b13 ∧ a14 = b14 := by
  cases h
  exact ⟨rfl, rfl, rfl, rfl, rfl, rfl, rfl, rfl, rfl, rfl, rfl, rfl, rfl, rfl⟩
theorem ti14 {t1 : Type} {t2 : Type} {t3 : Type} {t4 : Type} {t5 : Type} {t6 : Type} {t7 : Type} {t8 : Type} {t9 : Type} {t10 : Type} {t11 : Type} {t12 : Type} {t13 : Type} {t14 : Type} {a1 b1 : t1} {a2 b2 : t2} {a3 b3 : t3} {a4 b4 : t4} {a5 b5 : t5} {a6 b6 : t6} {a7 b7 : t7} {a8 b8 : t8} {a9 b9 : t9} {a10 b10 : t10} {a11 b11 : t11} {a12 b12 : t12} {a13 b13 : t13} {a14 b14 : t14} (h : (a1, a2, a3, a4, a5, a6, a7, a8, a9, a10, a11, a12, a13, a14) = (b1, b2, b3, b4, b5, b6, b7, b8, b9, b10, b11, b12, b13, b14)) : a1 = b1 ∧ a2 = b2 ∧ a3 = b3 ∧ a4 = b4 ∧ a5 = b5 ∧ a6 = b6 ∧ a7 = b7 ∧ a8 = b8 ∧ a9 = b9 ∧ a10 = b10 ∧ a11 = b11 ∧ a12 = b12 ∧ a13 = b13 ∧ a14 = b14 := by
  cases h
  exact ⟨rfl, rfl, rfl, rfl, rfl, rfl, rfl, rfl, rfl, rfl, rfl, rfl, rfl, rfl⟩
theorem si15 {t1 : Type} {t2 : Type} {t3 : Type} {t4 : Type} {t5 : Type} {t6 : Type} {t7 : Type} {t8 : Type} {t9 : Type} {t10 : Type} {t11 : Type} {t12 : Type} {t13 : Type} {t14 : Type} {t15 : Type} {a1 b1 : t1} {a2 b2 : t2} {a3 b3 : t3} {a4 b4 : t4} {a5 b5 : t5} {a6 b6 : t6} {a7 b7 : t7} {a8 b8 : t8} {a9 b9 : t9} {a10 b10 : t10} {a11 b11 : t11} {a12 b12 : t12} {a13 b13 : t13} {a14 b14 : t14} {a15 b15 : t15} (h : some (a1, a2, a3, a4, a5, a6, a7, a8, a9, a10, a11, a12, a13, a14, a15) = some (b1, b2, b3, b4, b5, b6, b7, b8, b9, b10, b11, b12, b13, b14, b15)) : a1 = b1 ∧ a2 = b2 ∧ a3 = b3 ∧ a4 = b4 ∧ a5 = b5 ∧ a6 = b6 ∧ a7 = b7 ∧ a8 = b8 ∧ a9 = b9 ∧ a10 = b10 ∧ a11 = b11 ∧ a12 = b12 ∧ a13 = b13 ∧ a14 = b14 ∧ a15 = b15 := by
  cases h
  exact ⟨rfl, rfl, rfl, rfl, rfl, rfl, rfl, rfl, rfl, rfl, rfl, rfl, rfl, rfl, rfl⟩
theorem ti15 {t1 : Type} {t2 : Type} {t3 : Type} {t4 : Type} {t5 : Type} {t6 : Type} {t7 : Type} {t8 : Type} {t9 : Type} {t10 : Type} {t11 : Type} {t12 : Type} {t13 : Type} {t14 : Type} {t15 : Type} {a1 b1 : t1} {a2 b2 : t2} {a3 b3 : t3} {a4 b4 : t4} {a5 b5 : t5} {a6 b6 : t6} {a7 b7 : t7} {a8 b8 : t8} {a9 b9 : t9} {a10 b10 : t10} {a11 b11 : t11} {a12 b12 : t12} {a13 b13 : t13} {a14 b14 : t14} {a15 b15 : t15} (h : (a1, a2, a3, a4, a5, a6, a7, a8, a9, a10, a11, a12, a13, a14, a15) = (b1, b2, b3, b4, b5, b6, b7, b8, b9, b10, b11, b12, b13, b14, b15)) : a1 = b1 ∧ a2 = b2 ∧ a3 = b3 ∧ a4 = b4 ∧ a5 = b5 ∧ a6 = b6 ∧ a7 = b7 ∧ a8 = b8 ∧ a9 = b9 ∧ a10 = b10 ∧ a11 = b11 ∧ a12 = b12 ∧ a13 = b13 ∧ a14 = b14 ∧ a15 = b15 := by
  cases h
  exact ⟨rfl, rfl, rfl, rfl, rfl, rfl, rfl, rfl, rfl, rfl, rfl, rfl, rfl, rfl, rfl⟩
theorem si16 {t1 : Type} {t2 : Type} {t3 : Type} {t4 : Type} {t5 : Type} {t6 : Type} {t7 : Type} {t8 : Type} {t9 : Type} {t10 : Type} {t11 : Type} {t12 : Type} {t13 : Type} {t14 : Type} {t15 : Type} {t16 : Type} {a1 b1 : t1} {a2 b2 : t2} {a3 b3 : t3} {a4 b4 : t4} {a5 b5 : t5} {a6 b6 : t6} {a7 b7 : t7} {a8 b8 : t8} {a9 b9 : t9} {a10 b10 : t10} {a11 b11 : t11} {a12 b12 : t12} {a13 b13 : t13} {a14 b14 : t14} {a15 b15 : t15} {a16 b16 : t16} (h : some (a1, a2, a3, a4, a5, a6, a7, a8, a9, a10, a11, a12, a13, a14, a15, a16) = some (b1, b2, b3, b4, b5, b6, b7, b8, b9, b10, b11, b12, b13, b14, b15, b16)) : a1 = b1 ∧ a2 = b2 ∧ a3 = b3 ∧ a4 = b4 ∧ a5 = b5 ∧ a6 = b6 ∧ a7 = b7 ∧ a8 = b8 ∧ a9 = b9 ∧ a10 = b10 ∧ a11 = b11 ∧ a12 = b12 ∧ a13 = b13 ∧ a14 = b14 ∧ a15 = b15 ∧ a16 = b16 := by
  cases h
  exact ⟨rfl, rfl, rfl, rfl, rfl, rfl, rfl, rfl, rfl, rfl, rfl, rfl, rfl, rfl, rfl, rfl⟩
theorem ti16 {t1 : Type} {t2 : Type} {t3 : Type} {t4 : Type} {t5 : Type} {t6 : Type} {t7 : Type} {t8 : Type} {t9 : Type} {t10 : Type} {t11 : Type} {t12 : Type} {t13 : Type} {t14 : Type} {t15 : Type} {t16 : Type} {a1 b1 : t1} {a2 b2 : t2} {a3 b3 : t3} {a4 b4 : t4} {a5 b5 : t5} {a6 b6 : t6} {a7 b7 : t7} {a8 b8 : t8} {a9 b9 : t9} {a10 b10 : t10} {a11 b11 : t11} {a12 b12 : t12} {a13 b13 : t13} {a14 b14 : t14} {a15 b15 : t15} {a16 b16 : t16} (h : (a1, a2, a3, a4, a5, a6, a7, a8, a9, a10, a11, a12, a13, a14, a15, a16) = (b1, b2, b3, b4, b5, b6, b7, b8, b9, b10, b11, b12, b13, b14, b15, b16)) : a1 = b1 ∧ a2 = b2 ∧ a3 = b3 ∧ a4 = b4 ∧ a5 = b5 ∧ a6 = b6 ∧ a7 = b7 ∧ a8 = b8 ∧ a9 = b9 ∧ a10 = b10 ∧ a11 = b11 ∧ a12 = b12 ∧ a13 = b13 ∧ a14 = b14 ∧ a15 = b15 ∧ a16 = b16 := by
  cases h
  exact ⟨rfl, rfl, rfl, rfl, rfl, rfl, rfl, rfl, rfl, rfl, rfl, rfl, rfl, rfl, rfl, rfl⟩
theorem si17 {t1 : Type} {t2 : Type} {t3 : Type} {t4 : Type} {t5 : Type} {t6 : Type} {t7 : Type} {t8 : Type} {t9 : Type} {t10 : Type} {t11 : Type} {t12 : Type} {t13 : Type} {t14 : Type} {t15 : Type} {t16 : Type} {t17 : Type} {a1 b1 : t1} {a2 b2 : t2} {a3 b3 : t3} {a4 b4 : t4} {a5 b5 : t5} {a6 b6 : t6} {a7 b7 : t7} {a8 b8 : t8} {a9 b9 : t9} {a10 b10 : t10} {a11 b11 : t11} {a12 b12 : t12} {a13 b13 : t13} {a14 b14 : t14} {a15 b15 : t15} {a16 b16 : t16} {a17 b17 : t17} (h : some (a1, a2, a3, a4, a5, a6, a7, a8, a9, a10, a11, a12, a13, a14, a15, a16, a17) = some (b1, b2, b3, b4, b5, b6, b7, b8, b9, b10, b11, b12, b13, b14, b15, b16, b17)) : a1 = b1 ∧ a2 = b2 ∧ a3 = b3 ∧ a4 = b4 ∧ a5 = b5 ∧ a6 = b6 ∧ a7 = b7 ∧ a8 = b8 ∧ a9 = b9 ∧ a10 = b10 ∧ a11 = b11 ∧ a12 = b12 ∧ a13 = b13 ∧ a14 = b14 ∧ a15 = b15 ∧ a16 = b16 ∧ a17 = b17 := by
  cases h
  exact ⟨rfl, rfl, rfl, rfl, rfl, rfl, rfl, rfl, rfl, rfl, rfl, rfl, rfl, rfl, rfl, rfl, rfl⟩
theorem ti17 {t1 : Type} {t2 : Type} {t3 : Type} {t4 : Type} {t5 : Type} {t6 : Type} {t7 : Type} {t8 : Type} {t9 : Type} {t10 : Type} {t11 : Type} {t12 : Type} {t13 : Type} {t14 : Type} {t15 : Type} {t16 : Type} {t17 : Type} {a1 b1 : t1} {a2 b2 : t2} {a3 b3 : t3} {a4 b4 : t4} {a5 b5 : t5} {a6 b6 : t6} {a7 b7 : t7} {a8 b8 : t8} {a9 b9 : t9} {a10 b10 : t10} {a11 b11 : t11} {a12 b12 : t12} {a13 b13 : t13} {a14 b14 : t14} {a15 b15 : t15} {a16 b16 : t16} {a17 b17 : t17} (h : (a1, a2, a3, a4, a5, a6, a7, a8, a9, a10, a11, a12, a13, a14, a15, a16, a17) = (b1, b2, b3, b4, b5, b6, b7, b8, b9, b10, b11, b12, b13, b14, b15, b16, b17)) : a1 = b1 ∧ a2 = b2 ∧ a3 = b3 ∧ a4 = b4 ∧ a5 = b5 ∧ a6 = b6 ∧ a7 = b7 ∧ a8 = b8 ∧ a9 = b9 ∧ a10 = b10 ∧ a11 = b11 ∧ a12 = b12 ∧ a13 = b13 ∧ a14 = b14 ∧ a15 = b15 ∧ a16 = b16 ∧ a17 = b17 := by
  cases h
  exact ⟨rfl, rfl, rfl, rfl, rfl, rfl, rfl, rfl, rfl, rfl, rfl, rfl, rfl, rfl, rfl, rfl, rfl⟩
theorem none_some {a : Type} {v : a} {P : Prop} (h : none = some v) : P := by cases h
def aget (N : Nat) (f : Nat → Int32) (i : Int32) : Option Int32 := if i < 0 ∨ N ≤ i.toNatClampNeg then none else some (f i.toNatClampNeg)
def aset (N : Nat) (f : Nat → Int32) (i x : Int32) : Option (Nat → Int32) := if i < 0 ∨ N ≤ i.toNatClampNeg then none else some (upd f i.toNatClampNeg x)
def odiv (x y : Int32) : Option Int32 := if y = 0 then none else some (x / y)
theorem aget_ex {N : Nat} {f : Nat → Int32} {i v : Int32} (h : aget N f i = some v) : vp_in i N ∧ f i.toNatClampNeg = v := by
  unfold aget at h
  split at h
  · cases h
  · next q => exact ⟨q, Option.some.inj h⟩
theorem aset_ex {N : Nat} {f f' : Nat → Int32} {i x : Int32} (h : aset N f i x = some f') : vp_in i N ∧ upd f i.toNatClampNeg x = f' := by
  unfold aset at h
  split at h
  · cases h
  · next q => exact ⟨q, Option.some.inj h⟩
theorem odiv_ex {x y v : Int32} (h : odiv x y = some v) : ¬ y = 0 ∧ x / y = v := by
  unfold odiv at h
  split at h
  · cases h
  · next q => exact ⟨q, Option.some.inj h⟩
theorem vp_ok {i : Int32} {N : Nat} (h0 : ¬ i < 0) (h1 : i < nI N) (hN : N < 2 ^ 31) : vp_in i N := by
  rw [vp_in_iff]
  have e1 := Int32.not_lt.mp h0
  rw [Int32.le_iff_toInt_le] at e1
  rw [Int32.lt_iff_toInt_lt, nI_toInt hN] at h1
  exact ⟨by simpa using e1, h1⟩
theorem ne_toInt {x k : Int32} {n : Int} (h : ¬ x = k) (hk : k.toInt = n) : x.toInt ≠ n := fun e => h (Int32.toInt_inj.mp (e.trans hk.symm))
