/-! THE CLAIM OUT OF ONE WALK OF THE LAW'S BODY. Your part is whole_start (and what it stands on); all else here is the same for every law, but numbers. -/
def R_law : String := "RibbedLoansLaw"
def lw_P (b : Addr) (xs : List Int32) (args : Array Value) (s : State) : Prop := args = #[.ref b] ∧ s.IntsAt b xs ∧ xs.length ≤ 260 ∧ (Jvm.Cond.and given_1 narrow_1).before args s = true
def lw_Q (_ : Array Value) (s : State) (o : Outcome) (t : State) : Prop := o = .returned (some (.int 1)) ∧ Framed s o t [] 600000 7302250
def lw_Z (below : List Frame) (a : Array Value) (s : State) : State → Prop := fun t => ∃ o, t.status = .running ∧ Ended t below o ∧ lw_Q a s o t
/-- the law's own end, with 1 on the stack, nothing written that was there before, its room as the claim has it -/
theorem lw_ret {p : Program} {l : Launch} {e : Env} {s : State} {m : MethodId} {below : List Frame} {meth : Method} {c : Code} {b : Nat} (hx : p.tables.exec = Jvm.exec) (hb : c.code = code) (hr : meth.sig.returnType = ret) (hlocks : meth.locks = false) {pc : Nat} {H : Heap} {ls : Array Slot} (hdg : decode code pc = .ok (.ireturn, 1)) : W p l e room_1 s m #[Value.ref b] below meth c H [] 600000 7302250 (lw_Z below #[Value.ref b] s) (F0 m pc ls [.int 1]) := by
  intro T hT X
  obtain ⟨fs, hret, hrun, hended, hW, hframe⟩ := X.leave (v := some (.int 1)) (hlocks := hlocks) (fun h => by rw [hr] at h; cases h)
  have hmeth' : T.vm.method? m = some meth := X.method'
  refine ⟨T.setFrames fs, ?_, .returned (some (.int 1)), hrun, hended, rfl, ⟨_, rfl⟩, hW, hframe⟩
  jvm_step X.here [X.here.top, hx, hb, hdg, hmeth', hr, ret, narrow_b1]
  (try refine ⟨rfl, ?_⟩); (try refine ⟨rfl, ?_⟩)
  first | (intro acts; rw [hret _ acts rfl rfl rfl]) | rw [hret _ _ rfl rfl rfl]
  exact Steps.refl _
/-- what holds at the law's entry: the machine, the code, the tables' words (any of lw_tbl by 'hts w (by decide +kernel)'), the script of L ints xs at the cell b, what the Statement gives of the start (any of its parts by flat_of_before) -/
def lw_At (p : Program) (s : State) (m : MethodId) (meth : Method) (c : Code) (b L : Nat) (xs : Nat → Int32) : Prop :=
  p.tables.exec = Jvm.exec ∧ c.code = code ∧ meth.sig.returnType = ret ∧ c.maxLocals = 4 ∧ s.vm.findClass R_law = some m.cls ∧ (∀ w ∈ lw_tbl, w.before #[Value.ref b] s = true) ∧ va_X b L xs s s.heap ∧ b < s.heap.size ∧ meth.locks = false ∧ (Jvm.Cond.and given_1 narrow_1).before #[Value.ref b] s = true
theorem ws_K {s : State} {args : Array Value} (hts : ∀ w ∈ GW, w.before args s = true) (hao : (Cond.arrayOver (.object RX3)).before args s = true) (hnw : ∀ w ∈ NWL, w.before args s = true) : ∃ (D : va_G) (cI cC cR : ClassId), SK D (TY cI cC cR) s := by
  obtain ⟨c0, i0, k0⟩ := u_known (C := RX0) (T := TX0) (N := 12) (n := 12) hts inX0 (hts _ (by decide +kernel : Cond.instantiable RX0 12 ∈ GW))
  obtain ⟨c1, i1, k1⟩ := u_known (C := RX1) (T := TX1) (N := 3) (n := 3) hts inX1 (hts _ (by decide +kernel : Cond.instantiable RX1 3 ∈ GW))
  obtain ⟨c2, i2, k2⟩ := u_known (C := RX2) (T := TX2) (N := 1) (n := 1) hts inX2 (hts _ (by decide +kernel : Cond.instantiable RX2 1 ∈ GW))
  obtain ⟨c3, i3, k3⟩ := u_known (C := RX3) (T := TX3) (N := 5) (n := 5) hts inX3 (hts _ (by decide +kernel : Cond.instantiable RX3 5 ∈ GW))
  obtain ⟨c4, i4, k4⟩ := u_known (C := RX4) (T := TX4) (N := 6) (n := 6) hts inX4 (hts _ (by decide +kernel : Cond.instantiable RX4 6 ∈ GW))
  obtain ⟨c5, i5, k5⟩ := u_known (C := RX5) (T := TX5) (N := 5) (n := 5) hts inX5 (hts _ (by decide +kernel : Cond.instantiable RX5 5 ∈ GW))
  obtain ⟨c6, i6, k6⟩ := u_known (C := RX6) (T := TX6) (N := 3) (n := 3) hts inX6 (hts _ (by decide +kernel : Cond.instantiable RX6 3 ∈ GW))
  obtain ⟨cI, kI, coI, fI1, fI2, fI3⟩ := Cond.arrayClass_spec (hts _ gw_64)
  obtain ⟨cC, kC, coC, fC1, fC2, fC3⟩ := Cond.arrayClass_spec (hts _ gw_202)
  obtain ⟨coR, cR, kR, fR1, fR2, fR3, fR4, fR5⟩ := Cond.arrayOver_spec hao
  refine ⟨(fun k => match k with | 0 => c0 | 1 => c1 | 2 => c2 | 3 => c3 | 4 => c4 | 5 => c5 | _ => c6, fun k => match k with | 0 => i0 | 1 => i1 | 2 => i2 | 3 => i3 | 4 => i4 | 5 => i5 | _ => i6), cI, cC, cR, ⟨fun k q hq => ?_, fun k q hq => ?_⟩, fun w hw => ?_, va_AO.of hao⟩
  · match k, hq with
    | 0, hq => cases hq; exact k0
    | 1, hq => cases hq; exact k1
    | 2, hq => cases hq; exact k2
    | 3, hq => cases hq; exact k3
    | 4, hq => cases hq; exact k4
    | 5, hq => cases hq; exact k5
    | 6, hq => cases hq; exact k6
    | k + 7, hq => simp [vwCl] at hq
  · match k, hq with
    | 0, hq => cases hq; exact ⟨fun n z => ⟨fun k h => (by cases h), kI, fI2, coI, fI3⟩, fI1⟩
    | 1, hq => cases hq; exact ⟨fun n z => ⟨fun k h => (by cases h), kC, fC2, coC, fC3⟩, fC1⟩
    | 2, hq => cases hq; exact ⟨fun n z => ⟨fun k h => (by cases h), kR, fR3, coR, fR4⟩, kR, coR, fR3, fR4, fR1, fR5⟩
    | k + 3, hq => simp [TY] at hq
  · exact va_Nw.of ((by decide +kernel : ∀ w ∈ NWL, w.onTables = true) w hw) (hnw w hw)
set_option maxHeartbeats 1000000 in
theorem ws_main (Z : Nat) (Rel : Nat → OV → Prop) (hA : ∀ i v x y, i < 30 → Rel i v → ∃ v1, f_L_acts Z v x y = some (1, v1) ∧ Rel (i + 1) v1) (hP : ∀ i v, Rel i v → f_L_places Z v = some 1) (hCn : ∀ i v, Rel i v → f_L_coins Z v = some 1) (r0 r1 r2 r3 r4 r5 r6 r7 r8 : Nat → Int32) (hC0 : f_X0_init Z = some (r0, r1, r2, r3, r4, r5, r6, r7, r8)) (hp : f_L_places Z (ov0 (ovC (r0, r1, r2, r3, r4, r5, r6, r7, r8))) = some 1) (hc : f_L_coins Z (ov0 (ovC (r0, r1, r2, r3, r4, r5, r6, r7, r8))) = some 1)
    (hh : ∀ x : Int32, ∃ v1 v2 v3 v4 v5 : OV, m_undo (ov0 (ovC (r0, r1, r2, r3, r4, r5, r6, r7, r8))) = some (-2, v1) ∧ m_restore v1 0 = some (-2, v2) ∧ m_buy Z v2 0 4 = some (0, v3) ∧ m_undo v3 = some (0, v4) ∧ m_buy Z v4 (f_L_low x 8) 6 = some (0, v5) ∧ Rel 1 v5)
    {p : Program} {e : Env} {s : State} {m : MethodId} {below : List Frame} {meth : Method} {c : Code} (l : Launch) {b L : Nat} {xs : Nat → Int32} (hL : L ≤ 260) (C0 : lw_At p s m meth c b L xs) : W p l e room_1 s m #[Value.ref b] below meth c s.heap [] 0 0 (lw_Z below #[Value.ref b] s) (entryFrame m ([Value.ref b] : List Value).toArray 4) := by
  obtain ⟨hx, hb, hr, hml, hown, hts, hX, hbl, hlocks, hgv⟩ := id C0
  have htsG : ∀ w ∈ GW, w.before #[Value.ref b] s = true := fun w hw => hts w (List.mem_filter.mp hw).1
  obtain ⟨D, cI, cC, cR, hSK⟩ := ws_K htsG (hts _ (by decide +kernel)) (fun w hw => hts w (nwl_tbl w hw))
  have hl := lv_entry ([.ref b]) (n := 4) (Nat.le_of_ble_eq_true rfl)
  rw [lg_entry_eq]
  generalize (lg_sl ([.ref b]) ++ List.replicate (4 - (lg_sl ([.ref b])).length) Slot.unset).toArray = ls at hl ⊢
  have hl : lv_has ls 4 [(0, .ref b)] := hl
  let A : Nat → Prop := fun q => s.heap.size ≤ q
  let Γ : KG := (p, l, e, room_1, s, m, #[Value.ref b], below, meth, c, lw_Z below #[Value.ref b] s, D, TY cI cC cR, A, A, s.heap, 4)
  have hw0 : ∃ w0 : Cond, w0.before #[Value.ref b] s = true := ⟨_, htsG _ gw_22⟩
  obtain ⟨w0, hw0⟩ := hw0
  have X : KX Γ l room_1 D (TY cI cC cR) code 4 "RibbedLoansLaw" w0 := ⟨rfl, rfl, rfl, rfl, rfl, ⟨hx, hb, hml, hown, fun w hw => by
    rcases List.mem_cons.mp hw with rfl | hw
    · exact hw0
    · exact htsG w hw⟩, hSK⟩
  have E : KE Γ := ⟨rfl, fun _ h => h⟩
  have S : KL Γ b L xs := ⟨hX, hbl, Nat.not_le.mpr hbl⟩
  obtain ⟨v1, v2, v3, v4, v5, hu, hre, hbu, hu2, hb2, hv⟩ := hh (f_L_lot L xs 0)
  have K : KW Γ 0 0 (wj []) [(0, .ref b)] 0 [] := by
    refine w_L_head l D cI cC cR b L xs X E S hL Z r0 r1 r2 r3 r4 r5 r6 r7 r8 hC0 v1 v2 v3 v4 v5 hp hc hu hre hbu hu2 hb2 (fun h0' h1 t0 t1 a b' d ah => ?_)
    refine w_L_loop l D cI cC cR b L xs X E S hL h0' h1 t0 t1 a b' d ah Z Rel hA hP hCn (fun v n z hn hz hv => ?_) 29 1 v5 (by omega) (by omega) (by omega) hv
    intro H locs ls hP hD hS hl
    refine W.widen (k := 600000) (n := 7302250) (by omega) (by omega) ?_
    refine va_forget hS.2.2 ?_
    exact lw_ret hx hb hr hlocks dL_law_144
  exact K s.heap [] ls (fun k q h => by simp [wj] at h) ⟨fun i j p q h => by simp [wj] at h, fun k q h => by simp [wj] at h⟩ va_S.rf hl
