theorem w4_fst {cC : ClassId} {a b : Nat} {ch : Nat → Int32} {x1 x2 x3 x4 x5 : Int32} : (wX4 cC a b ch x1 x2 x3 x4 x5).map (·.1) = [a, b] := rfl
theorem w4_same {cC : ClassId} {a b : Nat} {ch ch2 : Nat → Int32} {x1 x2 x3 x4 x5 y1 y2 y3 y4 y5 : Int32} : (wX4 cC a b ch x1 x2 x3 x4 x5).map (·.1) = (wX4 cC a b ch2 y1 y2 y3 y4 y5).map (·.1) := w4_fst.trans w4_fst.symm
def f_X6_take (c : CV) (s0 : CV) (s1 : CV) (k0 : Int32) (k1 : Int32) (g : Nat → SV) (nx : Nat) (sz : Int32) (p1 : Int32) : Int32 × CV × CV × Int32 × Int32 × (Nat → SV) × Nat × Int32 := if p1 = 0 then pl6 (f_X6_take_v0 c s0 s1 k0 k1 g nx sz p1) (fun (r_ : Int32) (s0_ : CV) (k0_ : Int32) (g_ : Nat → SV) (nx_ : Nat) (sz_ : Int32) => (r_, s0_, s1, k0_, k1, g_, nx_, sz_)) else pl6 (f_X6_take_v1 c s0 s1 k0 k1 g nx sz p1) (fun (r_ : Int32) (s1_ : CV) (k1_ : Int32) (g_ : Nat → SV) (nx_ : Nat) (sz_ : Int32) => (r_, s0, s1_, k0, k1_, g_, nx_, sz_))
abbrev rm_X6_take : Room := rm_X6_take_v0
theorem c_X6_take (l : Launch) (D : va_G) (cI cC cR : ClassId) (h0 h1 t0 t1 : Nat) (a b d ah : Nat → Nat) (c : CV) (s0 : CV) (s1 : CV) (k0 : Int32) (k1 : Int32) (g : Nat → SV) (nx : Nat) (sz : Int32) (ch : Nat → Int32) (len : Int32) (cur : Int32) (verb : Int32) (fi : Int32) (se : Int32) (p1 : Int32) (hb_k0 : k0 = 0 ∨ k0 = 1) (hb_k1 : k1 = 0 ∨ k1 = 1) (hnx : nx < 5) (hb_g : ∀ i, ((g i).2.2.2.1 = 0 ∨ (g i).2.2.2.1 = 1) ∧ ((g i).2.2.2.2 = 0 ∨ (g i).2.2.2.2 = 1)) (r : Int32) (s0' : CV) (s1' : CV) (k0' : Int32) (k1' : Int32) (g' : Nat → SV) (nx' : Nat) (sz' : Int32) (hF : f_X6_take c s0 s1 k0 k1 g nx sz p1 = (r, s0', s1', k0', k1', g', nx', sz')) : MEq l yX6_take cX6_take 2 (some .int) rm_X6_take D (TY cI cC cR) [.ref h0, .int p1] (wj [[(h0, .inr (6, [.ref h1, .ref (ah 0), .ref t0]))], [(h1, .inr (3, [.ref (a 0), .ref (b 0), .ref (d 0), .int k0, .int k1]))], bC cI a c, bC cI b s0, bC cI d s1, bH cI cR ah g nx sz, wX4 cC t0 t1 ch len cur verb fi se]) (wj [[(h0, .inr (6, [.ref h1, .ref (ah 0), .ref t0]))], [(h1, .inr (3, [.ref (a 0), .ref (b 0), .ref (d 0), .int k0', .int k1']))], bC cI a c, bC cI b s0', bC cI d s1', bH cI cR ah g' nx' sz', wX4 cC t0 t1 ch len cur verb fi se]) (some (.int r)) := by
  unfold f_X6_take at hF
  by_cases hs : p1 = 0
  · rw [if_pos hs] at hF
    obtain ⟨y0, y1, y2, y3, y4, y5, hx, hF⟩ := pl6_ex hF
    obtain ⟨rfl, rfl, rfl, rfl, rfl, rfl, rfl, rfl⟩ := ti8 hF
    exact c_X6_take_v0 l D cI cC cR h0 h1 t0 t1 a b d ah c s0 s1 k0 k1 g nx sz ch len cur verb fi se p1 hb_k0 hb_k1 hnx hb_g hs _ _ _ _ _ _ hx
  · rw [if_neg hs] at hF
    obtain ⟨y0, y1, y2, y3, y4, y5, hx, hF⟩ := pl6_ex hF
    obtain ⟨rfl, rfl, rfl, rfl, rfl, rfl, rfl, rfl⟩ := ti8 hF
    exact c_X6_take_v1 l D cI cC cR h0 h1 t0 t1 a b d ah c s0 s1 k0 k1 g nx sz ch len cur verb fi se p1 hb_k0 hb_k1 hnx hb_g hs _ _ _ _ _ _ hx

def f_X6_restore (c : CV) (s0 : CV) (s1 : CV) (k0 : Int32) (k1 : Int32) (g : Nat → SV) (nx : Nat) (sz : Int32) (p1 : Int32) : Int32 × CV × (Nat → SV) × Nat × Int32 := if p1 = 0 then pl5 (f_X6_restore_v0 c s0 s1 k0 k1 g nx sz p1) (fun (r_ : Int32) (c_ : CV) (g_ : Nat → SV) (nx_ : Nat) (sz_ : Int32) => (r_, c_, g_, nx_, sz_)) else pl5 (f_X6_restore_v1 c s0 s1 k0 k1 g nx sz p1) (fun (r_ : Int32) (c_ : CV) (g_ : Nat → SV) (nx_ : Nat) (sz_ : Int32) => (r_, c_, g_, nx_, sz_))
abbrev rm_X6_restore : Room := rm_X6_restore_v0
theorem c_X6_restore (l : Launch) (D : va_G) (cI cC cR : ClassId) (h0 h1 t0 t1 : Nat) (a b d ah : Nat → Nat) (c : CV) (s0 : CV) (s1 : CV) (k0 : Int32) (k1 : Int32) (g : Nat → SV) (nx : Nat) (sz : Int32) (ch : Nat → Int32) (len : Int32) (cur : Int32) (verb : Int32) (fi : Int32) (se : Int32) (p1 : Int32) (hb_k0 : k0 = 0 ∨ k0 = 1) (hb_k1 : k1 = 0 ∨ k1 = 1) (hnx : nx < 5) (hb_g : ∀ i, ((g i).2.2.2.1 = 0 ∨ (g i).2.2.2.1 = 1) ∧ ((g i).2.2.2.2 = 0 ∨ (g i).2.2.2.2 = 1)) (r : Int32) (c' : CV) (g' : Nat → SV) (nx' : Nat) (sz' : Int32) (hF : f_X6_restore c s0 s1 k0 k1 g nx sz p1 = (r, c', g', nx', sz')) : MEq l yX6_restore cX6_restore 2 (some .int) rm_X6_restore D (TY cI cC cR) [.ref h0, .int p1] (wj [[(h0, .inr (6, [.ref h1, .ref (ah 0), .ref t0]))], [(h1, .inr (3, [.ref (a 0), .ref (b 0), .ref (d 0), .int k0, .int k1]))], bC cI a c, bC cI b s0, bC cI d s1, bH cI cR ah g nx sz, wX4 cC t0 t1 ch len cur verb fi se]) (wj [[(h0, .inr (6, [.ref h1, .ref (ah 0), .ref t0]))], [(h1, .inr (3, [.ref (a 0), .ref (b 0), .ref (d 0), .int k0, .int k1]))], bC cI a c', bC cI b s0, bC cI d s1, bH cI cR ah g' nx' sz', wX4 cC t0 t1 ch len cur verb fi se]) (some (.int r)) := by
  unfold f_X6_restore at hF
  by_cases hs : p1 = 0
  · rw [if_pos hs] at hF
    obtain ⟨y0, y1, y2, y3, y4, hx, hF⟩ := pl5_ex hF
    obtain ⟨rfl, rfl, rfl, rfl, rfl⟩ := ti5 hF
    exact c_X6_restore_v0 l D cI cC cR h0 h1 t0 t1 a b d ah c s0 s1 k0 k1 g nx sz ch len cur verb fi se p1 hb_k0 hb_k1 hnx hb_g hs _ _ _ _ _ hx
  · rw [if_neg hs] at hF
    obtain ⟨y0, y1, y2, y3, y4, hx, hF⟩ := pl5_ex hF
    obtain ⟨rfl, rfl, rfl, rfl, rfl⟩ := ti5 hF
    exact c_X6_restore_v1 l D cI cC cR h0 h1 t0 t1 a b d ah c s0 s1 k0 k1 g nx sz ch len cur verb fi se p1 hb_k0 hb_k1 hnx hb_g hs _ _ _ _ _ hx

abbrev OV : Type := CV × CV × CV × Int32 × Int32 × (Nat → SV) × Nat × Int32 × (Nat → Int32) × Int32 × Int32 × Int32 × Int32 × Int32
def bO (cI cC cR : ClassId) (h0 h1 t0 t1 : Nat) (a b d ah : Nat → Nat) (v : OV) : va_W := wj [[(h0, .inr (6, [.ref h1, .ref (ah 0), .ref t0]))], [(h1, .inr (3, [.ref (a 0), .ref (b 0), .ref (d 0), .int v.2.2.2.1, .int v.2.2.2.2.1]))], bC cI a v.1, bC cI b v.2.1, bC cI d v.2.2.1, bH cI cR ah v.2.2.2.2.2.1 v.2.2.2.2.2.2.1 v.2.2.2.2.2.2.2.1, wX4 cC t0 t1 v.2.2.2.2.2.2.2.2.1 v.2.2.2.2.2.2.2.2.2.1 v.2.2.2.2.2.2.2.2.2.2.1 v.2.2.2.2.2.2.2.2.2.2.2.1 v.2.2.2.2.2.2.2.2.2.2.2.2.1 v.2.2.2.2.2.2.2.2.2.2.2.2.2]
theorem bO_same {cI cC cR : ClassId} {h0 h1 t0 t1 : Nat} {a b d ah : Nat → Nat} {v v' : OV} : (bO cI cC cR h0 h1 t0 t1 a b d ah v).map (·.1) = (bO cI cC cR h0 h1 t0 t1 a b d ah v').map (·.1) := by
  unfold bO
  exact wj_fst _ _ (wa_c c1_same (wa_c c1_same (wa_c bC_same (wa_c bC_same (wa_c bC_same (wa_c bH_same (wa_c w4_same rfl)))))))
theorem bO_0 {cI cC cR : ClassId} {h0 h1 t0 t1 : Nat} {a b d ah : Nat → Nat} {v : OV} : (bO cI cC cR h0 h1 t0 t1 a b d ah v)[0]? = some (h0, .inr (6, [.ref h1, .ref (ah 0), .ref t0])) := rfl
def OK (v : OV) : Prop := (v.2.2.2.1 = 0 ∨ v.2.2.2.1 = 1) ∧ (v.2.2.2.2.1 = 0 ∨ v.2.2.2.2.1 = 1) ∧ v.2.2.2.2.2.2.1 < 5 ∧ ∀ i, ((v.2.2.2.2.2.1 i).2.2.2.1 = 0 ∨ (v.2.2.2.2.2.1 i).2.2.2.1 = 1) ∧ ((v.2.2.2.2.2.1 i).2.2.2.2 = 0 ∨ (v.2.2.2.2.2.1 i).2.2.2.2 = 1)
noncomputable def gO {t : Type} (ok : Prop) (x : Option t) : Option t := @ite _ ok (Classical.propDecidable ok) x none
theorem gO_ex {t : Type} {ok : Prop} {x : Option t} {r : t} (h : gO ok x = some r) : ok ∧ x = some r := by
  unfold gO at h
  by_cases q : ok
  · exact ⟨q, (if_pos q).symm.trans h⟩
  · exact none_some ((if_neg q).symm.trans h)
theorem gO_in {t : Type} {ok : Prop} {x : Option t} (h : ok) : gO ok x = x := if_pos h
noncomputable def m_buy (Z : Nat) (v : OV) (p1 : Int32) (p2 : Int32) : Option (Int32 × OV) := gO (OK v) (ob5 (f_X6_buy Z v.1 v.2.1 v.2.2.1 v.2.2.2.1 v.2.2.2.2.1 v.2.2.2.2.2.1 v.2.2.2.2.2.2.1 v.2.2.2.2.2.2.2.1 p1 p2) (fun (r : Int32) (c_ : CV) (g_ : Nat → SV) (nx_ : Nat) (sz_ : Int32) => some (r, (c_, v.2.1, v.2.2.1, v.2.2.2.1, v.2.2.2.2.1, g_, nx_, sz_, v.2.2.2.2.2.2.2.2.1, v.2.2.2.2.2.2.2.2.2.1, v.2.2.2.2.2.2.2.2.2.2.1, v.2.2.2.2.2.2.2.2.2.2.2.1, v.2.2.2.2.2.2.2.2.2.2.2.2.1, v.2.2.2.2.2.2.2.2.2.2.2.2.2))))
theorem cm_buy (l : Launch) (D : va_G) (cI cC cR : ClassId) (h0 h1 t0 t1 : Nat) (a b d ah : Nat → Nat) (v : OV) (p1 : Int32) (p2 : Int32) (Z : Nat) (r : Int32) (v1 : OV) (hF : m_buy Z v p1 p2 = some (r, v1)) : MEq l yX6_buy cX6_buy 4 (some .int) rm_X6_buy D (TY cI cC cR) [.ref h0, .int p1, .int p2] (bO cI cC cR h0 h1 t0 t1 a b d ah v) (bO cI cC cR h0 h1 t0 t1 a b d ah v1) (some (.int r)) := by
  obtain ⟨ok, hF⟩ := gO_ex hF
  obtain ⟨y0, y1, y2, y3, y4, hx, hF⟩ := ob5_ex hF
  obtain ⟨rfl, rfl⟩ := si2 hF
  exact c_X6_buy l D cI cC cR h0 h1 t0 t1 a b d ah v.1 v.2.1 v.2.2.1 v.2.2.2.1 v.2.2.2.2.1 v.2.2.2.2.2.1 v.2.2.2.2.2.2.1 v.2.2.2.2.2.2.2.1 v.2.2.2.2.2.2.2.2.1 v.2.2.2.2.2.2.2.2.2.1 v.2.2.2.2.2.2.2.2.2.2.1 v.2.2.2.2.2.2.2.2.2.2.2.1 v.2.2.2.2.2.2.2.2.2.2.2.2.1 v.2.2.2.2.2.2.2.2.2.2.2.2.2 p1 p2 ok.1 ok.2.1 ok.2.2.1 ok.2.2.2 Z _ _ _ _ _ hx
noncomputable def m_set (v : OV) (p1 : Int32) (p2 : Int32) : Option (Int32 × OV) := gO (OK v) (pl5 (f_X6_set v.1 v.2.1 v.2.2.1 v.2.2.2.1 v.2.2.2.2.1 v.2.2.2.2.2.1 v.2.2.2.2.2.2.1 v.2.2.2.2.2.2.2.1 p1 p2) (fun (r : Int32) (c_ : CV) (g_ : Nat → SV) (nx_ : Nat) (sz_ : Int32) => some (r, (c_, v.2.1, v.2.2.1, v.2.2.2.1, v.2.2.2.2.1, g_, nx_, sz_, v.2.2.2.2.2.2.2.2.1, v.2.2.2.2.2.2.2.2.2.1, v.2.2.2.2.2.2.2.2.2.2.1, v.2.2.2.2.2.2.2.2.2.2.2.1, v.2.2.2.2.2.2.2.2.2.2.2.2.1, v.2.2.2.2.2.2.2.2.2.2.2.2.2))))
theorem cm_set (l : Launch) (D : va_G) (cI cC cR : ClassId) (h0 h1 t0 t1 : Nat) (a b d ah : Nat → Nat) (v : OV) (p1 : Int32) (p2 : Int32) (r : Int32) (v1 : OV) (hF : m_set v p1 p2 = some (r, v1)) : MEq l yX6_set cX6_set 4 (some .int) rm_X6_set D (TY cI cC cR) [.ref h0, .int p1, .int p2] (bO cI cC cR h0 h1 t0 t1 a b d ah v) (bO cI cC cR h0 h1 t0 t1 a b d ah v1) (some (.int r)) := by
  obtain ⟨ok, hF⟩ := gO_ex hF
  obtain ⟨y0, y1, y2, y3, y4, hx, hF⟩ := pl5_ex hF
  obtain ⟨rfl, rfl⟩ := si2 hF
  exact c_X6_set l D cI cC cR h0 h1 t0 t1 a b d ah v.1 v.2.1 v.2.2.1 v.2.2.2.1 v.2.2.2.2.1 v.2.2.2.2.2.1 v.2.2.2.2.2.2.1 v.2.2.2.2.2.2.2.1 v.2.2.2.2.2.2.2.2.1 v.2.2.2.2.2.2.2.2.2.1 v.2.2.2.2.2.2.2.2.2.2.1 v.2.2.2.2.2.2.2.2.2.2.2.1 v.2.2.2.2.2.2.2.2.2.2.2.2.1 v.2.2.2.2.2.2.2.2.2.2.2.2.2 p1 p2 ok.1 ok.2.1 ok.2.2.1 ok.2.2.2 _ _ _ _ _ hx
noncomputable def m_borrow (Z : Nat) (v : OV) (p1 : Int32) (p2 : Int32) : Option (Int32 × OV) := gO (OK v) (ob5 (f_X6_borrow Z v.1 v.2.1 v.2.2.1 v.2.2.2.1 v.2.2.2.2.1 v.2.2.2.2.2.1 v.2.2.2.2.2.2.1 v.2.2.2.2.2.2.2.1 p1 p2) (fun (r : Int32) (c_ : CV) (g_ : Nat → SV) (nx_ : Nat) (sz_ : Int32) => some (r, (c_, v.2.1, v.2.2.1, v.2.2.2.1, v.2.2.2.2.1, g_, nx_, sz_, v.2.2.2.2.2.2.2.2.1, v.2.2.2.2.2.2.2.2.2.1, v.2.2.2.2.2.2.2.2.2.2.1, v.2.2.2.2.2.2.2.2.2.2.2.1, v.2.2.2.2.2.2.2.2.2.2.2.2.1, v.2.2.2.2.2.2.2.2.2.2.2.2.2))))
theorem cm_borrow (l : Launch) (D : va_G) (cI cC cR : ClassId) (h0 h1 t0 t1 : Nat) (a b d ah : Nat → Nat) (v : OV) (p1 : Int32) (p2 : Int32) (Z : Nat) (r : Int32) (v1 : OV) (hF : m_borrow Z v p1 p2 = some (r, v1)) : MEq l yX6_borrow cX6_borrow 4 (some .int) rm_X6_borrow D (TY cI cC cR) [.ref h0, .int p1, .int p2] (bO cI cC cR h0 h1 t0 t1 a b d ah v) (bO cI cC cR h0 h1 t0 t1 a b d ah v1) (some (.int r)) := by
  obtain ⟨ok, hF⟩ := gO_ex hF
  obtain ⟨y0, y1, y2, y3, y4, hx, hF⟩ := ob5_ex hF
  obtain ⟨rfl, rfl⟩ := si2 hF
  exact c_X6_borrow l D cI cC cR h0 h1 t0 t1 a b d ah v.1 v.2.1 v.2.2.1 v.2.2.2.1 v.2.2.2.2.1 v.2.2.2.2.2.1 v.2.2.2.2.2.2.1 v.2.2.2.2.2.2.2.1 v.2.2.2.2.2.2.2.2.1 v.2.2.2.2.2.2.2.2.2.1 v.2.2.2.2.2.2.2.2.2.2.1 v.2.2.2.2.2.2.2.2.2.2.2.1 v.2.2.2.2.2.2.2.2.2.2.2.2.1 v.2.2.2.2.2.2.2.2.2.2.2.2.2 p1 p2 ok.1 ok.2.1 ok.2.2.1 ok.2.2.2 Z _ _ _ _ _ hx
noncomputable def m_bringBack (Z : Nat) (v : OV) (p1 : Int32) (p2 : Int32) : Option (Int32 × OV) := gO (OK v) (ob5 (f_X6_bringBack Z v.1 v.2.1 v.2.2.1 v.2.2.2.1 v.2.2.2.2.1 v.2.2.2.2.2.1 v.2.2.2.2.2.2.1 v.2.2.2.2.2.2.2.1 p1 p2) (fun (r : Int32) (c_ : CV) (g_ : Nat → SV) (nx_ : Nat) (sz_ : Int32) => some (r, (c_, v.2.1, v.2.2.1, v.2.2.2.1, v.2.2.2.2.1, g_, nx_, sz_, v.2.2.2.2.2.2.2.2.1, v.2.2.2.2.2.2.2.2.2.1, v.2.2.2.2.2.2.2.2.2.2.1, v.2.2.2.2.2.2.2.2.2.2.2.1, v.2.2.2.2.2.2.2.2.2.2.2.2.1, v.2.2.2.2.2.2.2.2.2.2.2.2.2))))
theorem cm_bringBack (l : Launch) (D : va_G) (cI cC cR : ClassId) (h0 h1 t0 t1 : Nat) (a b d ah : Nat → Nat) (v : OV) (p1 : Int32) (p2 : Int32) (Z : Nat) (r : Int32) (v1 : OV) (hF : m_bringBack Z v p1 p2 = some (r, v1)) : MEq l yX6_bringBack cX6_bringBack 4 (some .int) rm_X6_bringBack D (TY cI cC cR) [.ref h0, .int p1, .int p2] (bO cI cC cR h0 h1 t0 t1 a b d ah v) (bO cI cC cR h0 h1 t0 t1 a b d ah v1) (some (.int r)) := by
  obtain ⟨ok, hF⟩ := gO_ex hF
  obtain ⟨y0, y1, y2, y3, y4, hx, hF⟩ := ob5_ex hF
  obtain ⟨rfl, rfl⟩ := si2 hF
  exact c_X6_bringBack l D cI cC cR h0 h1 t0 t1 a b d ah v.1 v.2.1 v.2.2.1 v.2.2.2.1 v.2.2.2.2.1 v.2.2.2.2.2.1 v.2.2.2.2.2.2.1 v.2.2.2.2.2.2.2.1 v.2.2.2.2.2.2.2.2.1 v.2.2.2.2.2.2.2.2.2.1 v.2.2.2.2.2.2.2.2.2.2.1 v.2.2.2.2.2.2.2.2.2.2.2.1 v.2.2.2.2.2.2.2.2.2.2.2.2.1 v.2.2.2.2.2.2.2.2.2.2.2.2.2 p1 p2 ok.1 ok.2.1 ok.2.2.1 ok.2.2.2 Z _ _ _ _ _ hx
noncomputable def m_hour (Z : Nat) (v : OV) (p1 : Int32) (p2 : Int32) : Option (Int32 × OV) := gO (OK v) (ob5 (f_X6_hour Z v.1 v.2.1 v.2.2.1 v.2.2.2.1 v.2.2.2.2.1 v.2.2.2.2.2.1 v.2.2.2.2.2.2.1 v.2.2.2.2.2.2.2.1 p1 p2) (fun (r : Int32) (c_ : CV) (g_ : Nat → SV) (nx_ : Nat) (sz_ : Int32) => some (r, (c_, v.2.1, v.2.2.1, v.2.2.2.1, v.2.2.2.2.1, g_, nx_, sz_, v.2.2.2.2.2.2.2.2.1, v.2.2.2.2.2.2.2.2.2.1, v.2.2.2.2.2.2.2.2.2.2.1, v.2.2.2.2.2.2.2.2.2.2.2.1, v.2.2.2.2.2.2.2.2.2.2.2.2.1, v.2.2.2.2.2.2.2.2.2.2.2.2.2))))
theorem cm_hour (l : Launch) (D : va_G) (cI cC cR : ClassId) (h0 h1 t0 t1 : Nat) (a b d ah : Nat → Nat) (v : OV) (p1 : Int32) (p2 : Int32) (Z : Nat) (r : Int32) (v1 : OV) (hF : m_hour Z v p1 p2 = some (r, v1)) : MEq l yX6_hour cX6_hour 4 (some .int) rm_X6_hour D (TY cI cC cR) [.ref h0, .int p1, .int p2] (bO cI cC cR h0 h1 t0 t1 a b d ah v) (bO cI cC cR h0 h1 t0 t1 a b d ah v1) (some (.int r)) := by
  obtain ⟨ok, hF⟩ := gO_ex hF
  obtain ⟨y0, y1, y2, y3, y4, hx, hF⟩ := ob5_ex hF
  obtain ⟨rfl, rfl⟩ := si2 hF
  exact c_X6_hour l D cI cC cR h0 h1 t0 t1 a b d ah v.1 v.2.1 v.2.2.1 v.2.2.2.1 v.2.2.2.2.1 v.2.2.2.2.2.1 v.2.2.2.2.2.2.1 v.2.2.2.2.2.2.2.1 v.2.2.2.2.2.2.2.2.1 v.2.2.2.2.2.2.2.2.2.1 v.2.2.2.2.2.2.2.2.2.2.1 v.2.2.2.2.2.2.2.2.2.2.2.1 v.2.2.2.2.2.2.2.2.2.2.2.2.1 v.2.2.2.2.2.2.2.2.2.2.2.2.2 p1 p2 ok.1 ok.2.1 ok.2.2.1 ok.2.2.2 Z _ _ _ _ _ hx
noncomputable def m_load (Z : Nat) (v : OV) (p1 : Int32) (p2 : Int32) (p3 : Int32) : Option (Int32 × OV) := gO (OK v) (ob5 (f_X6_load Z v.1 v.2.1 v.2.2.1 v.2.2.2.1 v.2.2.2.2.1 v.2.2.2.2.2.1 v.2.2.2.2.2.2.1 v.2.2.2.2.2.2.2.1 p1 p2 p3) (fun (r : Int32) (c_ : CV) (g_ : Nat → SV) (nx_ : Nat) (sz_ : Int32) => some (r, (c_, v.2.1, v.2.2.1, v.2.2.2.1, v.2.2.2.2.1, g_, nx_, sz_, v.2.2.2.2.2.2.2.2.1, v.2.2.2.2.2.2.2.2.2.1, v.2.2.2.2.2.2.2.2.2.2.1, v.2.2.2.2.2.2.2.2.2.2.2.1, v.2.2.2.2.2.2.2.2.2.2.2.2.1, v.2.2.2.2.2.2.2.2.2.2.2.2.2))))
theorem cm_load (l : Launch) (D : va_G) (cI cC cR : ClassId) (h0 h1 t0 t1 : Nat) (a b d ah : Nat → Nat) (v : OV) (p1 : Int32) (p2 : Int32) (p3 : Int32) (Z : Nat) (r : Int32) (v1 : OV) (hF : m_load Z v p1 p2 p3 = some (r, v1)) : MEq l yX6_load cX6_load 5 (some .int) rm_X6_load D (TY cI cC cR) [.ref h0, .int p1, .int p2, .int p3] (bO cI cC cR h0 h1 t0 t1 a b d ah v) (bO cI cC cR h0 h1 t0 t1 a b d ah v1) (some (.int r)) := by
  obtain ⟨ok, hF⟩ := gO_ex hF
  obtain ⟨y0, y1, y2, y3, y4, hx, hF⟩ := ob5_ex hF
  obtain ⟨rfl, rfl⟩ := si2 hF
  exact c_X6_load l D cI cC cR h0 h1 t0 t1 a b d ah v.1 v.2.1 v.2.2.1 v.2.2.2.1 v.2.2.2.2.1 v.2.2.2.2.2.1 v.2.2.2.2.2.2.1 v.2.2.2.2.2.2.2.1 v.2.2.2.2.2.2.2.2.1 v.2.2.2.2.2.2.2.2.2.1 v.2.2.2.2.2.2.2.2.2.2.1 v.2.2.2.2.2.2.2.2.2.2.2.1 v.2.2.2.2.2.2.2.2.2.2.2.2.1 v.2.2.2.2.2.2.2.2.2.2.2.2.2 p1 p2 p3 ok.1 ok.2.1 ok.2.2.1 ok.2.2.2 Z _ _ _ _ _ hx
noncomputable def m_unload (Z : Nat) (v : OV) (p1 : Int32) (p2 : Int32) (p3 : Int32) : Option (Int32 × OV) := gO (OK v) (ob5 (f_X6_unload Z v.1 v.2.1 v.2.2.1 v.2.2.2.1 v.2.2.2.2.1 v.2.2.2.2.2.1 v.2.2.2.2.2.2.1 v.2.2.2.2.2.2.2.1 p1 p2 p3) (fun (r : Int32) (c_ : CV) (g_ : Nat → SV) (nx_ : Nat) (sz_ : Int32) => some (r, (c_, v.2.1, v.2.2.1, v.2.2.2.1, v.2.2.2.2.1, g_, nx_, sz_, v.2.2.2.2.2.2.2.2.1, v.2.2.2.2.2.2.2.2.2.1, v.2.2.2.2.2.2.2.2.2.2.1, v.2.2.2.2.2.2.2.2.2.2.2.1, v.2.2.2.2.2.2.2.2.2.2.2.2.1, v.2.2.2.2.2.2.2.2.2.2.2.2.2))))
theorem cm_unload (l : Launch) (D : va_G) (cI cC cR : ClassId) (h0 h1 t0 t1 : Nat) (a b d ah : Nat → Nat) (v : OV) (p1 : Int32) (p2 : Int32) (p3 : Int32) (Z : Nat) (r : Int32) (v1 : OV) (hF : m_unload Z v p1 p2 p3 = some (r, v1)) : MEq l yX6_unload cX6_unload 5 (some .int) rm_X6_unload D (TY cI cC cR) [.ref h0, .int p1, .int p2, .int p3] (bO cI cC cR h0 h1 t0 t1 a b d ah v) (bO cI cC cR h0 h1 t0 t1 a b d ah v1) (some (.int r)) := by
  obtain ⟨ok, hF⟩ := gO_ex hF
  obtain ⟨y0, y1, y2, y3, y4, hx, hF⟩ := ob5_ex hF
  obtain ⟨rfl, rfl⟩ := si2 hF
  exact c_X6_unload l D cI cC cR h0 h1 t0 t1 a b d ah v.1 v.2.1 v.2.2.1 v.2.2.2.1 v.2.2.2.2.1 v.2.2.2.2.2.1 v.2.2.2.2.2.2.1 v.2.2.2.2.2.2.2.1 v.2.2.2.2.2.2.2.2.1 v.2.2.2.2.2.2.2.2.2.1 v.2.2.2.2.2.2.2.2.2.2.1 v.2.2.2.2.2.2.2.2.2.2.2.1 v.2.2.2.2.2.2.2.2.2.2.2.2.1 v.2.2.2.2.2.2.2.2.2.2.2.2.2 p1 p2 p3 ok.1 ok.2.1 ok.2.2.1 ok.2.2.2 Z _ _ _ _ _ hx
noncomputable def m_toWorkshop (Z : Nat) (v : OV) (p1 : Int32) : Option (Int32 × OV) := gO (OK v) (ob5 (f_X6_toWorkshop Z v.1 v.2.1 v.2.2.1 v.2.2.2.1 v.2.2.2.2.1 v.2.2.2.2.2.1 v.2.2.2.2.2.2.1 v.2.2.2.2.2.2.2.1 p1) (fun (r : Int32) (c_ : CV) (g_ : Nat → SV) (nx_ : Nat) (sz_ : Int32) => some (r, (c_, v.2.1, v.2.2.1, v.2.2.2.1, v.2.2.2.2.1, g_, nx_, sz_, v.2.2.2.2.2.2.2.2.1, v.2.2.2.2.2.2.2.2.2.1, v.2.2.2.2.2.2.2.2.2.2.1, v.2.2.2.2.2.2.2.2.2.2.2.1, v.2.2.2.2.2.2.2.2.2.2.2.2.1, v.2.2.2.2.2.2.2.2.2.2.2.2.2))))
theorem cm_toWorkshop (l : Launch) (D : va_G) (cI cC cR : ClassId) (h0 h1 t0 t1 : Nat) (a b d ah : Nat → Nat) (v : OV) (p1 : Int32) (Z : Nat) (r : Int32) (v1 : OV) (hF : m_toWorkshop Z v p1 = some (r, v1)) : MEq l yX6_toWorkshop cX6_toWorkshop 3 (some .int) rm_X6_toWorkshop D (TY cI cC cR) [.ref h0, .int p1] (bO cI cC cR h0 h1 t0 t1 a b d ah v) (bO cI cC cR h0 h1 t0 t1 a b d ah v1) (some (.int r)) := by
  obtain ⟨ok, hF⟩ := gO_ex hF
  obtain ⟨y0, y1, y2, y3, y4, hx, hF⟩ := ob5_ex hF
  obtain ⟨rfl, rfl⟩ := si2 hF
  exact c_X6_toWorkshop l D cI cC cR h0 h1 t0 t1 a b d ah v.1 v.2.1 v.2.2.1 v.2.2.2.1 v.2.2.2.2.1 v.2.2.2.2.2.1 v.2.2.2.2.2.2.1 v.2.2.2.2.2.2.2.1 v.2.2.2.2.2.2.2.2.1 v.2.2.2.2.2.2.2.2.2.1 v.2.2.2.2.2.2.2.2.2.2.1 v.2.2.2.2.2.2.2.2.2.2.2.1 v.2.2.2.2.2.2.2.2.2.2.2.2.1 v.2.2.2.2.2.2.2.2.2.2.2.2.2 p1 ok.1 ok.2.1 ok.2.2.1 ok.2.2.2 Z _ _ _ _ _ hx
noncomputable def m_mend (Z : Nat) (v : OV) (p1 : Int32) : Option (Int32 × OV) := gO (OK v) (ob5 (f_X6_mend Z v.1 v.2.1 v.2.2.1 v.2.2.2.1 v.2.2.2.2.1 v.2.2.2.2.2.1 v.2.2.2.2.2.2.1 v.2.2.2.2.2.2.2.1 p1) (fun (r : Int32) (c_ : CV) (g_ : Nat → SV) (nx_ : Nat) (sz_ : Int32) => some (r, (c_, v.2.1, v.2.2.1, v.2.2.2.1, v.2.2.2.2.1, g_, nx_, sz_, v.2.2.2.2.2.2.2.2.1, v.2.2.2.2.2.2.2.2.2.1, v.2.2.2.2.2.2.2.2.2.2.1, v.2.2.2.2.2.2.2.2.2.2.2.1, v.2.2.2.2.2.2.2.2.2.2.2.2.1, v.2.2.2.2.2.2.2.2.2.2.2.2.2))))
theorem cm_mend (l : Launch) (D : va_G) (cI cC cR : ClassId) (h0 h1 t0 t1 : Nat) (a b d ah : Nat → Nat) (v : OV) (p1 : Int32) (Z : Nat) (r : Int32) (v1 : OV) (hF : m_mend Z v p1 = some (r, v1)) : MEq l yX6_mend cX6_mend 3 (some .int) rm_X6_mend D (TY cI cC cR) [.ref h0, .int p1] (bO cI cC cR h0 h1 t0 t1 a b d ah v) (bO cI cC cR h0 h1 t0 t1 a b d ah v1) (some (.int r)) := by
  obtain ⟨ok, hF⟩ := gO_ex hF
  obtain ⟨y0, y1, y2, y3, y4, hx, hF⟩ := ob5_ex hF
  obtain ⟨rfl, rfl⟩ := si2 hF
  exact c_X6_mend l D cI cC cR h0 h1 t0 t1 a b d ah v.1 v.2.1 v.2.2.1 v.2.2.2.1 v.2.2.2.2.1 v.2.2.2.2.2.1 v.2.2.2.2.2.2.1 v.2.2.2.2.2.2.2.1 v.2.2.2.2.2.2.2.2.1 v.2.2.2.2.2.2.2.2.2.1 v.2.2.2.2.2.2.2.2.2.2.1 v.2.2.2.2.2.2.2.2.2.2.2.1 v.2.2.2.2.2.2.2.2.2.2.2.2.1 v.2.2.2.2.2.2.2.2.2.2.2.2.2 p1 ok.1 ok.2.1 ok.2.2.1 ok.2.2.2 Z _ _ _ _ _ hx
noncomputable def m_level (Z : Nat) (v : OV) : Option (Int32 × OV) := gO (OK v) (ob5 (f_X6_level Z v.1 v.2.1 v.2.2.1 v.2.2.2.1 v.2.2.2.2.1 v.2.2.2.2.2.1 v.2.2.2.2.2.2.1 v.2.2.2.2.2.2.2.1) (fun (r : Int32) (c_ : CV) (g_ : Nat → SV) (nx_ : Nat) (sz_ : Int32) => some (r, (c_, v.2.1, v.2.2.1, v.2.2.2.1, v.2.2.2.2.1, g_, nx_, sz_, v.2.2.2.2.2.2.2.2.1, v.2.2.2.2.2.2.2.2.2.1, v.2.2.2.2.2.2.2.2.2.2.1, v.2.2.2.2.2.2.2.2.2.2.2.1, v.2.2.2.2.2.2.2.2.2.2.2.2.1, v.2.2.2.2.2.2.2.2.2.2.2.2.2))))
theorem cm_level (l : Launch) (D : va_G) (cI cC cR : ClassId) (h0 h1 t0 t1 : Nat) (a b d ah : Nat → Nat) (v : OV) (Z : Nat) (r : Int32) (v1 : OV) (hF : m_level Z v = some (r, v1)) : MEq l yX6_level cX6_level 1 (some .int) rm_X6_level D (TY cI cC cR) [.ref h0] (bO cI cC cR h0 h1 t0 t1 a b d ah v) (bO cI cC cR h0 h1 t0 t1 a b d ah v1) (some (.int r)) := by
  obtain ⟨ok, hF⟩ := gO_ex hF
  obtain ⟨y0, y1, y2, y3, y4, hx, hF⟩ := ob5_ex hF
  obtain ⟨rfl, rfl⟩ := si2 hF
  exact c_X6_level l D cI cC cR h0 h1 t0 t1 a b d ah v.1 v.2.1 v.2.2.1 v.2.2.2.1 v.2.2.2.2.1 v.2.2.2.2.2.1 v.2.2.2.2.2.2.1 v.2.2.2.2.2.2.2.1 v.2.2.2.2.2.2.2.2.1 v.2.2.2.2.2.2.2.2.2.1 v.2.2.2.2.2.2.2.2.2.2.1 v.2.2.2.2.2.2.2.2.2.2.2.1 v.2.2.2.2.2.2.2.2.2.2.2.2.1 v.2.2.2.2.2.2.2.2.2.2.2.2.2 ok.1 ok.2.1 ok.2.2.1 ok.2.2.2 Z _ _ _ _ _ hx
noncomputable def m_take (v : OV) (p1 : Int32) : Option (Int32 × OV) := gO (OK v) (pl8 (f_X6_take v.1 v.2.1 v.2.2.1 v.2.2.2.1 v.2.2.2.2.1 v.2.2.2.2.2.1 v.2.2.2.2.2.2.1 v.2.2.2.2.2.2.2.1 p1) (fun (r : Int32) (s0_ : CV) (s1_ : CV) (k0_ : Int32) (k1_ : Int32) (g_ : Nat → SV) (nx_ : Nat) (sz_ : Int32) => some (r, (v.1, s0_, s1_, k0_, k1_, g_, nx_, sz_, v.2.2.2.2.2.2.2.2.1, v.2.2.2.2.2.2.2.2.2.1, v.2.2.2.2.2.2.2.2.2.2.1, v.2.2.2.2.2.2.2.2.2.2.2.1, v.2.2.2.2.2.2.2.2.2.2.2.2.1, v.2.2.2.2.2.2.2.2.2.2.2.2.2))))
theorem cm_take (l : Launch) (D : va_G) (cI cC cR : ClassId) (h0 h1 t0 t1 : Nat) (a b d ah : Nat → Nat) (v : OV) (p1 : Int32) (r : Int32) (v1 : OV) (hF : m_take v p1 = some (r, v1)) : MEq l yX6_take cX6_take 2 (some .int) rm_X6_take D (TY cI cC cR) [.ref h0, .int p1] (bO cI cC cR h0 h1 t0 t1 a b d ah v) (bO cI cC cR h0 h1 t0 t1 a b d ah v1) (some (.int r)) := by
  obtain ⟨ok, hF⟩ := gO_ex hF
  obtain ⟨y0, y1, y2, y3, y4, y5, y6, y7, hx, hF⟩ := pl8_ex hF
  obtain ⟨rfl, rfl⟩ := si2 hF
  exact c_X6_take l D cI cC cR h0 h1 t0 t1 a b d ah v.1 v.2.1 v.2.2.1 v.2.2.2.1 v.2.2.2.2.1 v.2.2.2.2.2.1 v.2.2.2.2.2.2.1 v.2.2.2.2.2.2.2.1 v.2.2.2.2.2.2.2.2.1 v.2.2.2.2.2.2.2.2.2.1 v.2.2.2.2.2.2.2.2.2.2.1 v.2.2.2.2.2.2.2.2.2.2.2.1 v.2.2.2.2.2.2.2.2.2.2.2.2.1 v.2.2.2.2.2.2.2.2.2.2.2.2.2 p1 ok.1 ok.2.1 ok.2.2.1 ok.2.2.2 _ _ _ _ _ _ _ _ hx
noncomputable def m_restore (v : OV) (p1 : Int32) : Option (Int32 × OV) := gO (OK v) (pl5 (f_X6_restore v.1 v.2.1 v.2.2.1 v.2.2.2.1 v.2.2.2.2.1 v.2.2.2.2.2.1 v.2.2.2.2.2.2.1 v.2.2.2.2.2.2.2.1 p1) (fun (r : Int32) (c_ : CV) (g_ : Nat → SV) (nx_ : Nat) (sz_ : Int32) => some (r, (c_, v.2.1, v.2.2.1, v.2.2.2.1, v.2.2.2.2.1, g_, nx_, sz_, v.2.2.2.2.2.2.2.2.1, v.2.2.2.2.2.2.2.2.2.1, v.2.2.2.2.2.2.2.2.2.2.1, v.2.2.2.2.2.2.2.2.2.2.2.1, v.2.2.2.2.2.2.2.2.2.2.2.2.1, v.2.2.2.2.2.2.2.2.2.2.2.2.2))))
theorem cm_restore (l : Launch) (D : va_G) (cI cC cR : ClassId) (h0 h1 t0 t1 : Nat) (a b d ah : Nat → Nat) (v : OV) (p1 : Int32) (r : Int32) (v1 : OV) (hF : m_restore v p1 = some (r, v1)) : MEq l yX6_restore cX6_restore 2 (some .int) rm_X6_restore D (TY cI cC cR) [.ref h0, .int p1] (bO cI cC cR h0 h1 t0 t1 a b d ah v) (bO cI cC cR h0 h1 t0 t1 a b d ah v1) (some (.int r)) := by
  obtain ⟨ok, hF⟩ := gO_ex hF
  obtain ⟨y0, y1, y2, y3, y4, hx, hF⟩ := pl5_ex hF
  obtain ⟨rfl, rfl⟩ := si2 hF
  exact c_X6_restore l D cI cC cR h0 h1 t0 t1 a b d ah v.1 v.2.1 v.2.2.1 v.2.2.2.1 v.2.2.2.2.1 v.2.2.2.2.2.1 v.2.2.2.2.2.2.1 v.2.2.2.2.2.2.2.1 v.2.2.2.2.2.2.2.2.1 v.2.2.2.2.2.2.2.2.2.1 v.2.2.2.2.2.2.2.2.2.2.1 v.2.2.2.2.2.2.2.2.2.2.2.1 v.2.2.2.2.2.2.2.2.2.2.2.2.1 v.2.2.2.2.2.2.2.2.2.2.2.2.2 p1 ok.1 ok.2.1 ok.2.2.1 ok.2.2.2 _ _ _ _ _ hx
noncomputable def m_undo (v : OV) : Option (Int32 × OV) := gO (OK v) (pl8 (f_X6_undo v.1 v.2.1 v.2.2.1 v.2.2.2.1 v.2.2.2.2.1 v.2.2.2.2.2.1 v.2.2.2.2.2.2.1 v.2.2.2.2.2.2.2.1) (fun (r : Int32) (c_ : CV) (s0_ : CV) (s1_ : CV) (k0_ : Int32) (k1_ : Int32) (nx_ : Nat) (sz_ : Int32) => some (r, (c_, s0_, s1_, k0_, k1_, v.2.2.2.2.2.1, nx_, sz_, v.2.2.2.2.2.2.2.2.1, v.2.2.2.2.2.2.2.2.2.1, v.2.2.2.2.2.2.2.2.2.2.1, v.2.2.2.2.2.2.2.2.2.2.2.1, v.2.2.2.2.2.2.2.2.2.2.2.2.1, v.2.2.2.2.2.2.2.2.2.2.2.2.2))))
theorem cm_undo (l : Launch) (D : va_G) (cI cC cR : ClassId) (h0 h1 t0 t1 : Nat) (a b d ah : Nat → Nat) (v : OV) (r : Int32) (v1 : OV) (hF : m_undo v = some (r, v1)) : MEq l yX6_undo cX6_undo 1 (some .int) rm_X6_undo D (TY cI cC cR) [.ref h0] (bO cI cC cR h0 h1 t0 t1 a b d ah v) (bO cI cC cR h0 h1 t0 t1 a b d ah v1) (some (.int r)) := by
  obtain ⟨ok, hF⟩ := gO_ex hF
  obtain ⟨y0, y1, y2, y3, y4, y5, y6, y7, hx, hF⟩ := pl8_ex hF
  obtain ⟨rfl, rfl⟩ := si2 hF
  exact c_X6_undo l D cI cC cR h0 h1 t0 t1 a b d ah v.1 v.2.1 v.2.2.1 v.2.2.2.1 v.2.2.2.2.1 v.2.2.2.2.2.1 v.2.2.2.2.2.2.1 v.2.2.2.2.2.2.2.1 v.2.2.2.2.2.2.2.2.1 v.2.2.2.2.2.2.2.2.2.1 v.2.2.2.2.2.2.2.2.2.2.1 v.2.2.2.2.2.2.2.2.2.2.2.1 v.2.2.2.2.2.2.2.2.2.2.2.2.1 v.2.2.2.2.2.2.2.2.2.2.2.2.2 ok.1 ok.2.1 ok.2.2.1 ok.2.2.2 _ _ _ _ _ _ _ _ hx
noncomputable def m_count (Z : Nat) (v : OV) (p1 : Int32) : Option (Int32) := gO (OK v) ((f_X6_count Z v.1 v.2.2.2.1 v.2.2.2.2.1 v.2.2.2.2.2.2.2.1 v.2.2.2.2.2.2.2.2.2.1 p1))
theorem cm_count (l : Launch) (D : va_G) (cI cC cR : ClassId) (h0 h1 t0 t1 : Nat) (a b d ah : Nat → Nat) (v : OV) (p1 : Int32) (Z : Nat) (r : Int32) (hF : m_count Z v p1 = some r) : MPi l yX6_count cX6_count 4 (some .int) rm_X6_count D (TY cI cC cR) [.ref h0, .int p1] (bO cI cC cR h0 h1 t0 t1 a b d ah v) (.int r) := by
  obtain ⟨ok, hF⟩ := gO_ex hF
  exact c_X6_count l D cI cC cR h0 h1 t0 t1 a b d ah v.1 v.2.1 v.2.2.1 v.2.2.2.1 v.2.2.2.2.1 v.2.2.2.2.2.1 v.2.2.2.2.2.2.1 v.2.2.2.2.2.2.2.1 v.2.2.2.2.2.2.2.2.1 v.2.2.2.2.2.2.2.2.2.1 v.2.2.2.2.2.2.2.2.2.2.1 v.2.2.2.2.2.2.2.2.2.2.2.1 v.2.2.2.2.2.2.2.2.2.2.2.2.1 v.2.2.2.2.2.2.2.2.2.2.2.2.2 p1 ok.1 ok.2.1 ok.2.2.1 ok.2.2.2 Z r hF
noncomputable def m_umbrella (v : OV) (p1 : Int32) (p2 : Int32) : Option (Int32) := gO (OK v) (some (f_X6_umbrella v.1 p1 p2))
theorem cm_umbrella (l : Launch) (D : va_G) (cI cC cR : ClassId) (h0 h1 t0 t1 : Nat) (a b d ah : Nat → Nat) (v : OV) (p1 : Int32) (p2 : Int32) (r : Int32) (hF : m_umbrella v p1 p2 = some r) : MPi l yX6_umbrella cX6_umbrella 5 (some .int) rm_X6_umbrella D (TY cI cC cR) [.ref h0, .int p1, .int p2] (bO cI cC cR h0 h1 t0 t1 a b d ah v) (.int r) := by
  obtain ⟨ok, hF⟩ := gO_ex hF
  exact c_X6_umbrella l D cI cC cR h0 h1 t0 t1 a b d ah v.1 v.2.1 v.2.2.1 v.2.2.2.1 v.2.2.2.2.1 v.2.2.2.2.2.1 v.2.2.2.2.2.2.1 v.2.2.2.2.2.2.2.1 v.2.2.2.2.2.2.2.2.1 v.2.2.2.2.2.2.2.2.2.1 v.2.2.2.2.2.2.2.2.2.2.1 v.2.2.2.2.2.2.2.2.2.2.2.1 v.2.2.2.2.2.2.2.2.2.2.2.2.1 v.2.2.2.2.2.2.2.2.2.2.2.2.2 p1 p2 ok.1 ok.2.1 ok.2.2.1 ok.2.2.2 r (Option.some.inj hF)
noncomputable def m_stand (Z : Nat) (v : OV) (p1 : Int32) (p2 : Int32) : Option (Int32) := gO (OK v) ((f_X6_stand Z v.1 p1 p2))
theorem cm_stand (l : Launch) (D : va_G) (cI cC cR : ClassId) (h0 h1 t0 t1 : Nat) (a b d ah : Nat → Nat) (v : OV) (p1 : Int32) (p2 : Int32) (Z : Nat) (r : Int32) (hF : m_stand Z v p1 p2 = some r) : MPi l yX6_stand cX6_stand 4 (some .int) rm_X6_stand D (TY cI cC cR) [.ref h0, .int p1, .int p2] (bO cI cC cR h0 h1 t0 t1 a b d ah v) (.int r) := by
  obtain ⟨ok, hF⟩ := gO_ex hF
  exact c_X6_stand l D cI cC cR h0 h1 t0 t1 a b d ah v.1 v.2.1 v.2.2.1 v.2.2.2.1 v.2.2.2.2.1 v.2.2.2.2.2.1 v.2.2.2.2.2.2.1 v.2.2.2.2.2.2.2.1 v.2.2.2.2.2.2.2.2.1 v.2.2.2.2.2.2.2.2.2.1 v.2.2.2.2.2.2.2.2.2.2.1 v.2.2.2.2.2.2.2.2.2.2.2.1 v.2.2.2.2.2.2.2.2.2.2.2.2.1 v.2.2.2.2.2.2.2.2.2.2.2.2.2 p1 p2 ok.1 ok.2.1 ok.2.2.1 ok.2.2.2 Z r hF
noncomputable def m_person (Z : Nat) (v : OV) (p1 : Int32) (p2 : Int32) : Option (Int32) := gO (OK v) ((f_X6_person Z v.1 p1 p2))
theorem cm_person (l : Launch) (D : va_G) (cI cC cR : ClassId) (h0 h1 t0 t1 : Nat) (a b d ah : Nat → Nat) (v : OV) (p1 : Int32) (p2 : Int32) (Z : Nat) (r : Int32) (hF : m_person Z v p1 p2 = some r) : MPi l yX6_person cX6_person 5 (some .int) rm_X6_person D (TY cI cC cR) [.ref h0, .int p1, .int p2] (bO cI cC cR h0 h1 t0 t1 a b d ah v) (.int r) := by
  obtain ⟨ok, hF⟩ := gO_ex hF
  exact c_X6_person l D cI cC cR h0 h1 t0 t1 a b d ah v.1 v.2.1 v.2.2.1 v.2.2.2.1 v.2.2.2.2.1 v.2.2.2.2.2.1 v.2.2.2.2.2.2.1 v.2.2.2.2.2.2.2.1 v.2.2.2.2.2.2.2.2.1 v.2.2.2.2.2.2.2.2.2.1 v.2.2.2.2.2.2.2.2.2.2.1 v.2.2.2.2.2.2.2.2.2.2.2.1 v.2.2.2.2.2.2.2.2.2.2.2.2.1 v.2.2.2.2.2.2.2.2.2.2.2.2.2 p1 p2 ok.1 ok.2.1 ok.2.2.1 ok.2.2.2 Z r hF
noncomputable def m_inVan (Z : Nat) (v : OV) (p1 : Int32) (p2 : Int32) : Option (Int32) := gO (OK v) ((f_X6_inVan Z v.1 p1 p2))
theorem cm_inVan (l : Launch) (D : va_G) (cI cC cR : ClassId) (h0 h1 t0 t1 : Nat) (a b d ah : Nat → Nat) (v : OV) (p1 : Int32) (p2 : Int32) (Z : Nat) (r : Int32) (hF : m_inVan Z v p1 p2 = some r) : MPi l yX6_inVan cX6_inVan 3 (some .int) rm_X6_inVan D (TY cI cC cR) [.ref h0, .int p1, .int p2] (bO cI cC cR h0 h1 t0 t1 a b d ah v) (.int r) := by
  obtain ⟨ok, hF⟩ := gO_ex hF
  exact c_X6_inVan l D cI cC cR h0 h1 t0 t1 a b d ah v.1 v.2.1 v.2.2.1 v.2.2.2.1 v.2.2.2.2.1 v.2.2.2.2.2.1 v.2.2.2.2.2.2.1 v.2.2.2.2.2.2.2.1 v.2.2.2.2.2.2.2.2.1 v.2.2.2.2.2.2.2.2.2.1 v.2.2.2.2.2.2.2.2.2.2.1 v.2.2.2.2.2.2.2.2.2.2.2.1 v.2.2.2.2.2.2.2.2.2.2.2.2.1 v.2.2.2.2.2.2.2.2.2.2.2.2.2 p1 p2 ok.1 ok.2.1 ok.2.2.1 ok.2.2.2 Z r hF
noncomputable def m_feeIn (Z : Nat) (v : OV) (p1 : Int32) (p2 : Int32) (p3 : Int32) : Option (Int32) := gO (OK v) ((f_X6_feeIn Z v.1 p1 p2 p3))
theorem cm_feeIn (l : Launch) (D : va_G) (cI cC cR : ClassId) (h0 h1 t0 t1 : Nat) (a b d ah : Nat → Nat) (v : OV) (p1 : Int32) (p2 : Int32) (p3 : Int32) (Z : Nat) (r : Int32) (hF : m_feeIn Z v p1 p2 p3 = some r) : MPi l yX6_feeIn cX6_feeIn 4 (some .int) rm_X6_feeIn D (TY cI cC cR) [.ref h0, .int p1, .int p2, .int p3] (bO cI cC cR h0 h1 t0 t1 a b d ah v) (.int r) := by
  obtain ⟨ok, hF⟩ := gO_ex hF
  exact c_X6_feeIn l D cI cC cR h0 h1 t0 t1 a b d ah v.1 v.2.1 v.2.2.1 v.2.2.2.1 v.2.2.2.2.1 v.2.2.2.2.2.1 v.2.2.2.2.2.2.1 v.2.2.2.2.2.2.2.1 v.2.2.2.2.2.2.2.2.1 v.2.2.2.2.2.2.2.2.2.1 v.2.2.2.2.2.2.2.2.2.2.1 v.2.2.2.2.2.2.2.2.2.2.2.1 v.2.2.2.2.2.2.2.2.2.2.2.2.1 v.2.2.2.2.2.2.2.2.2.2.2.2.2 p1 p2 p3 ok.1 ok.2.1 ok.2.2.1 ok.2.2.2 Z r hF
noncomputable def m_breaksIn (Z : Nat) (v : OV) (p1 : Int32) (p2 : Int32) (p3 : Int32) : Option (Int32) := gO (OK v) ((f_X6_breaksIn Z v.1 p1 p2 p3))
theorem cm_breaksIn (l : Launch) (D : va_G) (cI cC cR : ClassId) (h0 h1 t0 t1 : Nat) (a b d ah : Nat → Nat) (v : OV) (p1 : Int32) (p2 : Int32) (p3 : Int32) (Z : Nat) (r : Int32) (hF : m_breaksIn Z v p1 p2 p3 = some r) : MPi l yX6_breaksIn cX6_breaksIn 4 (some .int) rm_X6_breaksIn D (TY cI cC cR) [.ref h0, .int p1, .int p2, .int p3] (bO cI cC cR h0 h1 t0 t1 a b d ah v) (.int r) := by
  obtain ⟨ok, hF⟩ := gO_ex hF
  exact c_X6_breaksIn l D cI cC cR h0 h1 t0 t1 a b d ah v.1 v.2.1 v.2.2.1 v.2.2.2.1 v.2.2.2.2.1 v.2.2.2.2.2.1 v.2.2.2.2.2.2.1 v.2.2.2.2.2.2.2.1 v.2.2.2.2.2.2.2.2.1 v.2.2.2.2.2.2.2.2.2.1 v.2.2.2.2.2.2.2.2.2.2.1 v.2.2.2.2.2.2.2.2.2.2.2.1 v.2.2.2.2.2.2.2.2.2.2.2.2.1 v.2.2.2.2.2.2.2.2.2.2.2.2.2 p1 p2 p3 ok.1 ok.2.1 ok.2.2.1 ok.2.2.2 Z r hF
noncomputable def m_emptied (Z : Nat) (v : OV) : Option (Int32) := gO (OK v) ((f_X6_emptied Z v.1))
theorem cm_emptied (l : Launch) (D : va_G) (cI cC cR : ClassId) (h0 h1 t0 t1 : Nat) (a b d ah : Nat → Nat) (v : OV) (Z : Nat) (r : Int32) (hF : m_emptied Z v = some r) : MPi l yX6_emptied cX6_emptied 3 (some .int) rm_X6_emptied D (TY cI cC cR) [.ref h0] (bO cI cC cR h0 h1 t0 t1 a b d ah v) (.int r) := by
  obtain ⟨ok, hF⟩ := gO_ex hF
  exact c_X6_emptied l D cI cC cR h0 h1 t0 t1 a b d ah v.1 v.2.1 v.2.2.1 v.2.2.2.1 v.2.2.2.2.1 v.2.2.2.2.2.1 v.2.2.2.2.2.2.1 v.2.2.2.2.2.2.2.1 v.2.2.2.2.2.2.2.2.1 v.2.2.2.2.2.2.2.2.2.1 v.2.2.2.2.2.2.2.2.2.2.1 v.2.2.2.2.2.2.2.2.2.2.2.1 v.2.2.2.2.2.2.2.2.2.2.2.2.1 v.2.2.2.2.2.2.2.2.2.2.2.2.2 ok.1 ok.2.1 ok.2.2.1 ok.2.2.2 Z r hF
/-- a static method that changes its own world alone, and makes cells -/
def MEn (l : Launch) (y : MethodName) (cc : ByteArray) (ml : Nat) (ret : Option FieldType) (rm : Room) (D : va_G) (ty : List (ClassId × FieldType)) (av : List Value) (W0 : va_W) (W1 : va_W) (r : Option Value) (mc ms : Nat) : Prop :=
  ∀ sz : Nat, Met l y (mws y cc ml ret) rm (va_Pc av (fun U => U.heap.size = sz ∧ va_P D vwCl W0 U.heap ∧ SK D ty U ∧ va_D (fun _ => True) W0)) (fun _ st oc t => (oc = .returned r ∧ va_P D vwCl W1 t.heap ∧ va_D (va_A W0 sz) W1) ∧ va_F (va_A W0 sz) st t) mc ms (va_A W0 sz)
theorem me_en {l : Launch} {D : va_G} {ty : List (ClassId × FieldType)} {y : MethodName} {cc : ByteArray} {ml : Nat} {rt : FieldType} {rm : Room} {av : List Value} {W0 W1 : va_W} {lo : List (Nat × Value)} {r : Int32} {mc ms : Nat} (hy : plainName y.cls = true) (hlen : (lg_sl av).length ≤ ml) (hlo : lv_args 0 av = lo)
    (k : ∀ Γ : KG, KX Γ l rm D ty cc ml y.cls (.code y cc ml (some rt)) → KE Γ → (∀ lo pc, narrow rt (.int r) = .int r → decode cc pc = .ok (.ireturn, 1) → KW Γ mc ms W1 lo pc [.int r]) → KW Γ 0 0 W0 lo 0 []) : MEn l y cc ml (some rt) rm D ty av W0 W1 (some (.int r)) mc ms := by
  intro sz
  refine Met.ofW (cc := cc) (maxL := ml) (ret := some rt) hy rfl ?_
  intro p e s m args below meth c s₁ B hml hv
  obtain ⟨rfl, hsz, hP, hSK, hD0⟩ := hv
  subst hsz
  have hl := lv_entry av (n := ml) hlen
  rw [hlo] at hl
  rw [lg_entry_eq]
  refine k (p, l, e, rm, s, m, av.toArray, below, meth, c, _, D, ty, va_A W0 s.heap.size, va_A W0 s.heap.size, s.heap, ml) ⟨rfl, rfl, rfl, rfl, rfl, ⟨B.exec, B.bytes, hml, findClass_of_methodNamed B.named, atoms_spec (ws := mws y cc ml (some rt)) B.pre⟩, hSK⟩ ⟨rfl, fun q h => Or.inr h⟩ ?_ s.heap [] _ hP hD0.self va_S.rf hl
  intro lo pc hn d H locs ls hP hD hS hl
  exact W.zret B.exec B.bytes B.returns hn (fun t ht hW => ⟨⟨rfl, by rw [ht]; exact hP, hD⟩, hS.F ht⟩) hS.2.2 d B.notSynchronized
section KZ
variable {Γ : KG} {l : Launch} {rm : Room} {D : va_G} {ty : List (ClassId × FieldType)} {cc : ByteArray} {nL : Nat} {own : String} {w0 : Cond}
variable {n z pc tgt : Nat} {bs bs' : List va_W} {ws : va_W} {lo lo' : List (Nat × Value)} {st : List Value}
theorem kw_ishr (X : KX Γ l rm D ty cc nL own w0) {x y : Int32} (d : decode cc pc = .ok (.ishr, 1))
    (kk : KW Γ n z ws lo (pc + 1) (.int (x >>> (y &&& 31)) :: st)) : KW Γ n z ws lo pc (.int y :: .int x :: st) := by
  obtain ⟨p, l', e, R, s, m, args, below, meth, c, Q, D', ty', AD, A, H0, nL'⟩ := Γ
  obtain ⟨rfl, rfl, rfl, rfl, rfl, ⟨hx, hb, hml, hown, hts⟩, hSK⟩ := X
  intro H locs ls hP hD hS hl
  exact lv_ishr hx hb d (kk H locs ls hP hD hS hl)
theorem kb_first {b : va_W} (kk : KW Γ n z b lo pc st) : KW Γ n z (wj (b :: bs)) lo pc st := by
  obtain ⟨p, l', e, R, s, m, args, below, meth, c, Q, D', ty', AD, A, H0, nL'⟩ := Γ
  intro H locs ls hP hD hS hl
  exact kk H locs ls (blk_P (k := 0) rfl hP) (blk_sub (k := 0) rfl hD) hS hl
theorem kb_one {b : va_W} (kk : KW Γ n z (wj [b]) lo pc st) : KW Γ n z b lo pc st := (wj_one b) ▸ kk
theorem kb_sen (X : KX Γ l rm D ty cc nL own w0) {y : MethodName} {cy : ByteArray} {my idx k mc ms : Nat} {ry : Option FieldType} {rc : Room} {As stk : List Value} {r : Value} {wc w1 : va_W} (E : KE Γ) (hM : MEn l y cy my ry rc D ty As wc w1 (some r) mc ms) (vl : SL own idx y cy my ry) (hd : YV y own k) (hR : rc.frames + 1 ≤ rm.frames ∧ 8 + (my + 11) + rc.locals ≤ rm.locals) (hR0 : rc.cells = mc ∧ rc.slots = ms) (hnz : n + mc ≤ rm.cells ∧ z + ms ≤ rm.slots) (k0 : Nat) (hb : bs[k0]? = some wc) (hst : stk = As.reverse ++ st) (hAs : As.length = k) (hcat : (st.map fun v => v.category).sum ≤ 8) (d : decode cc pc = .ok (.invokestatic idx, 3)) (hf : w1.map (·.1) = wc.map (·.1)) (hws : bs.set k0 w1 = bs')
    (kk : KW Γ (n + mc) (z + ms) (wj bs') lo (pc + 3) (r :: st)) : KW Γ n z (wj bs) lo pc stk := by
  obtain ⟨p, l', e, R, s, m, args, below, meth, c, Q, D', ty', AD, A, H0, nL'⟩ := Γ
  obtain ⟨rfl, rfl, rfl, rfl, rfl, ⟨hx, hbc, hml, hown, hts⟩, hSK⟩ := X
  intro H locs ls hP hD hS hl
  obtain ⟨rfl, hA⟩ := E
  subst hst
  have hPc := blk_P hb hP
  have hDc : va_D (fun _ => True) wc := (blk_sub hb hD).weaken (fun _ _ _ _ => trivial)
  have hC : [k0].map (fun i => bs[i]?) = [wc].map some := by simp [hb]
  have hF := sel_F (sz := H.size) hC hD (fun q h => hA q (Nat.le_trans hS.1 h))
  rw [wj_one] at hF
  exact kw_backE (mc := mc) (ms := ms) (va_runS (As := As) (rest := st) ⟨hx, hbc, hml, hown, hts⟩ (hM H.size) (cwS k hts (gw_S vl) rfl hR0.1 hR0.2 hd hR) ⟨fun a U g mk q => by obtain ⟨q0, q4, q1, q2, q3⟩ := q; exact ⟨q0, q4, q1, q2.calling g mk a, q3⟩, fun U hU hW => ⟨rfl, by rw [hU], by rw [hU]; exact hPc, hSK.moved hW, hDc⟩⟩ rfl hAs hl.1 rfl (lv_room hcat) d ⟨hnz.1, hnz.2⟩) hS hF (fun t H1 locs1 ht hB hz hk hS1 => by
    obtain ⟨hP1, hD1⟩ := hB
    rw [ht] at hP1
    obtain ⟨hP2, hD2⟩ := lput_join hP hD [k0] hC rfl (w1 := [w1]) (by simp [wa, hf]) (by rw [wj_one]; exact hk) (by rw [wj_one]; exact hP1)
    have e : lput bs [k0] [w1] = bs' := hws
    rw [e] at hP2 hD2
    exact kk H1 locs1 ls hP2 hD2 hS1 hl)
theorem kb_ssp (X : KX Γ l rm D ty cc nL own w0) {y : MethodName} {cy : ByteArray} {my idx k : Nat} {ry : Option FieldType} {rc : Room} {As stk : List Value} {r : Value} {wc : va_W} (hM : MPi l y cy my ry rc D ty As wc r) (vl : SL own idx y cy my ry) (hd : YV y own k) (hR : rc.frames + 1 ≤ rm.frames ∧ 8 + (my + 11) + rc.locals ≤ rm.locals) (hR0 : rc.cells = 0 ∧ rc.slots = 0) (hnz : n ≤ rm.cells ∧ z ≤ rm.slots) (k0 : Nat) (hb : bs[k0]? = some wc) (hst : stk = As.reverse ++ st) (hAs : As.length = k) (hcat : (st.map fun v => v.category).sum ≤ 8) (d : decode cc pc = .ok (.invokestatic idx, 3))
    (kk : KW Γ n z (wj bs) lo (pc + 3) (r :: st)) : KW Γ n z (wj bs) lo pc stk := by
  obtain ⟨p, l', e, R, s, m, args, below, meth, c, Q, D', ty', AD, A, H0, nL'⟩ := Γ
  obtain ⟨rfl, rfl, rfl, rfl, rfl, ⟨hx, hbc, hml, hown, hts⟩, hSK⟩ := X
  intro H locs ls hP hD hS hl
  subst hst
  have hPc := blk_P hb hP
  have hDc : va_D (fun _ => True) wc := (blk_sub hb hD).weaken (fun _ _ _ _ => trivial)
  exact kw_backP (va_runS (As := As) (rest := st) ⟨hx, hbc, hml, hown, hts⟩ (hM) (cwS k hts (gw_S vl) rfl hR0.1 hR0.2 hd hR) ⟨fun a U g mk q => by obtain ⟨q0, q1, q2, q3⟩ := q; exact ⟨q0, q1, q2.calling g mk a, q3⟩, fun U hU hW => ⟨rfl, by rw [hU]; exact hPc, hSK.moved hW, hDc⟩⟩ rfl hAs hl.1 rfl (lv_room hcat) d ⟨hnz.1, hnz.2⟩) hP hS (fun H1 locs1 hP1 hS1 => kk H1 locs1 ls hP1 hD hS1 hl)
end KZ
def KL (Γ : KG) (b L : Nat) (xs : Nat → Int32) : Prop :=
  match Γ with
  | (_, _, _, _, s, _, _, _, _, _, _, _, _, _, A, H0, _) => va_X b L xs s H0 ∧ b < H0.size ∧ ¬ A b
section KLs
variable {Γ : KG} {l : Launch} {rm : Room} {D : va_G} {ty : List (ClassId × FieldType)} {cc : ByteArray} {nL : Nat} {own : String} {w0 : Cond}
variable {n z pc : Nat} {ws : va_W} {lo : List (Nat × Value)} {st : List Value}
theorem kl_sld {b L : Nat} {xs : Nat → Int32} {i v : Int32} (X : KX Γ l rm D ty cc nL own w0) (S : KL Γ b L xs) (hin : vp_in i L) (hv : xs i.toNatClampNeg = v) (d : decode cc pc = .ok (.iaload, 1)) (kk : KW Γ n z ws lo (pc + 1) (.int v :: st)) : KW Γ n z ws lo pc (.int i :: .ref b :: st) := by
  obtain ⟨p, l', e, R, s, m, args, below, meth, c, Q, D', ty', AD, A, H0, nL'⟩ := Γ
  obtain ⟨S1, S2, S3⟩ := S
  obtain ⟨rfl, rfl, rfl, rfl, rfl, ⟨hx, hbc, hml, hown, hts⟩, hSK⟩ := X
  intro H locs ls hP hD hS hl
  subst hv
  exact va_sld hx hbc S1 S2 S3 hS hin d (kk H locs ls hP hD hS hl)
theorem kl_slen {b L : Nat} {xs : Nat → Int32} (X : KX Γ l rm D ty cc nL own w0) (S : KL Γ b L xs) (d : decode cc pc = .ok (.arraylength, 1)) (kk : KW Γ n z ws lo (pc + 1) (.int (nI L) :: st)) : KW Γ n z ws lo pc (.ref b :: st) := by
  obtain ⟨p, l', e, R, s, m, args, below, meth, c, Q, D', ty', AD, A, H0, nL'⟩ := Γ
  obtain ⟨S1, S2, S3⟩ := S
  obtain ⟨rfl, rfl, rfl, rfl, rfl, ⟨hx, hbc, hml, hown, hts⟩, hSK⟩ := X
  intro H locs ls hP hD hS hl
  exact va_slen hx hbc S1 S2 S3 hS d (kk H locs ls hP hD hS hl)
/-- a static method that looks at the script alone -/
def MSc (l : Launch) (y : MethodName) (cc : ByteArray) (ml : Nat) (ret : Option FieldType) (rm : Room) (D : va_G) (ty : List (ClassId × FieldType)) (av : List Value) (b L : Nat) (xs : Nat → Int32) (r : Value) : Prop :=
  Met l y (mws y cc ml ret) rm (va_Pc av (fun U => va_X b L xs U U.heap ∧ b < U.heap.size ∧ SK D ty U)) (fun _ st oc t => oc = .returned (some r) ∧ va_F (fun _ => False) st t) 0 0 (fun _ => False)
theorem me_sc {y : MethodName} {ml : Nat} {rt : FieldType} {av : List Value} {b L : Nat} {xs : Nat → Int32} {lo : List (Nat × Value)} {r : Int32} (hy : plainName y.cls = true) (hlen : (lg_sl av).length ≤ ml) (hlo : lv_args 0 av = lo)
    (k : ∀ Γ : KG, KX Γ l rm D ty cc ml y.cls (.code y cc ml (some rt)) → KL Γ b L xs → (∀ ws lo pc, narrow rt (.int r) = .int r → decode cc pc = .ok (.ireturn, 1) → KW Γ 0 0 ws lo pc [.int r]) → KW Γ 0 0 [] lo 0 []) : MSc l y cc ml (some rt) rm D ty av b L xs (.int r) := by
  refine Met.ofW (cc := cc) (maxL := ml) (ret := some rt) hy rfl ?_
  intro p e s m args below meth c s₁ B hml hv
  obtain ⟨rfl, hX, hbl, hSK⟩ := hv
  have hl := lv_entry av (n := ml) hlen
  rw [hlo] at hl
  rw [lg_entry_eq]
  refine k (p, l, e, rm, s, m, av.toArray, below, meth, c, _, D, ty, (fun _ => True), (fun _ => False), s.heap, ml) ⟨rfl, rfl, rfl, rfl, rfl, ⟨B.exec, B.bytes, hml, findClass_of_methodNamed B.named, atoms_spec (ws := mws y cc ml (some rt)) B.pre⟩, hSK⟩ ⟨hX, hbl, fun h => h⟩ ?_ s.heap [] _ (fun k q h => by simp at h) ⟨fun i j p q h => by simp at h, fun k q h => by simp at h⟩ va_S.rf hl
  intro ws lo pc hn d H locs ls hP hD hS hl
  exact W.zret B.exec B.bytes B.returns hn (fun t ht hW => ⟨rfl, hS.F ht⟩) hS.2.2 d B.notSynchronized
theorem kl_ssc {b L : Nat} {xs : Nat → Int32} (X : KX Γ l rm D ty cc nL own w0) (S : KL Γ b L xs) {y : MethodName} {cy : ByteArray} {my idx k : Nat} {ry : Option FieldType} {rc : Room} {As stk : List Value} {r : Value} (hM : MSc l y cy my ry rc D ty As b L xs r) (vl : SL own idx y cy my ry) (hd : YV y own k) (hR : rc.frames + 1 ≤ rm.frames ∧ 8 + (my + 11) + rc.locals ≤ rm.locals) (hR0 : rc.cells = 0 ∧ rc.slots = 0) (hnz : n ≤ rm.cells ∧ z ≤ rm.slots) (hst : stk = As.reverse ++ st) (hAs : As.length = k) (hcat : (st.map fun v => v.category).sum ≤ 8) (d : decode cc pc = .ok (.invokestatic idx, 3))
    (kk : KW Γ n z ws lo (pc + 3) (r :: st)) : KW Γ n z ws lo pc stk := by
  obtain ⟨p, l', e, R, s, m, args, below, meth, c, Q, D', ty', AD, A, H0, nL'⟩ := Γ
  obtain ⟨S1, S2, S3⟩ := S
  obtain ⟨rfl, rfl, rfl, rfl, rfl, ⟨hx, hbc, hml, hown, hts⟩, hSK⟩ := X
  intro H locs ls hP hD hS hl
  subst hst
  have hbH : H[b]? = _ := hS.2.1 b S2 S3
  have hlt : b < H.size := Nat.lt_of_lt_of_le S2 hS.1
  exact kw_backP (va_runS (As := As) (rest := st) ⟨hx, hbc, hml, hown, hts⟩ (hM) (cwS k hts (gw_S vl) rfl hR0.1 hR0.2 hd hR) ⟨fun a U g mk q => by obtain ⟨q0, q1, q2, q3⟩ := q; exact ⟨q0, q1, q2, q3.calling g mk a⟩, fun U hU hW => ⟨rfl, va_X.moved hW.alike (by rw [hU]; exact S1.kept hbH), by rw [hU]; exact hlt, hSK.moved hW⟩⟩ rfl hAs hl.1 rfl (lv_room hcat) d ⟨hnz.1, hnz.2⟩) hP hS (fun H1 locs1 hP1 hS1 => kk H1 locs1 ls hP1 hD hS1 hl)
end KLs
theorem pn_L : plainName RL = true := by decide +kernel
def f_L_low (x y : Int32) : Int32 := (x &&& 2147483647) - (x &&& 2147483647) / y * y
abbrev rm_L_low : Room := { frames := 0, cells := 0, slots := 0, locals := 0 }
theorem c_L_low (l : Launch) (D : va_G) (cI cC cR : ClassId) (p1 p2 : Int32) (h : ¬ p2 = 0) : MPi l yL_low cL_low 2 (some .int) rm_L_low D (TY cI cC cR) [.int p1, .int p2] [] (.int (f_L_low p1 p2)) := by
  refine me_p pn_L (Nat.le_of_ble_eq_true rfl) rfl (fun Γ X hret => ?_)
  refine kw_iload_n X dL_low_0 rfl 0 rfl ?_
  refine kw_ldc X dL_low_1 gw_326 ?_
  refine kw_iand X dL_low_3 ?_
  refine kw_iload_n X dL_low_4 rfl 1 rfl ?_
  refine kw_irem X dL_low_5 h ?_
  exact hret _ _ _ (vp_nar_int _) dL_low_6
def f_L_lot (L : Nat) (xs : Nat → Int32) (k : Int32) : Int32 := if k < 0 then 0 else if k < nI L then xs k.toNatClampNeg else -1648374959 * (k + 2647) + 2393
abbrev rm_L_lot : Room := { frames := 0, cells := 0, slots := 0, locals := 0 }
theorem c_L_lot (l : Launch) (D : va_G) (cI cC cR : ClassId) (sb L : Nat) (xs : Nat → Int32) (hL : L < 2 ^ 31) (k : Int32) (h : ¬ k < 0) : MSc l yL_lot cL_lot 2 (some .int) rm_L_lot D (TY cI cC cR) [.ref sb, .int k] sb L xs (.int (f_L_lot L xs k)) := by
  refine me_sc pn_L (Nat.le_of_ble_eq_true rfl) rfl (fun Γ X S hret => ?_)
  unfold f_L_lot at hret
  rw [if_neg h] at hret
  refine kw_iload_n X dL_lot_0 rfl 1 rfl ?_
  refine kw_aload_n X dL_lot_1 rfl 0 rfl ?_
  refine kl_slen X S dL_lot_2 ?_
  refine kw_icmp_ge X 12 dL_lot_3 (by decide) (fun q => ?_) (fun q => ?_)
  · rw [if_neg q] at hret
    refine kw_ldc X dL_lot_12 gw_322 ?_
    refine kw_iload_n X dL_lot_14 rfl 1 rfl ?_
    refine kw_sipush X dL_lot_15 cs_2647 ?_
    refine kw_iadd X dL_lot_18 ?_
    refine kw_imul X dL_lot_19 ?_
    refine kw_sipush X dL_lot_20 cs_2393 ?_
    refine kw_iadd X dL_lot_23 ?_
    exact hret _ _ _ (vp_nar_int _) dL_lot_24
  · rw [if_pos q] at hret
    refine kw_aload_n X dL_lot_6 rfl 0 rfl ?_
    refine kw_iload_n X dL_lot_7 rfl 1 rfl ?_
    refine kl_sld (v := xs k.toNatClampNeg) X S (vp_ok h q hL) rfl dL_lot_8 ?_
    refine kw_goto X 24 dL_lot_9 (by decide) ?_
    exact hret _ _ _ (vp_nar_int _) dL_lot_24
