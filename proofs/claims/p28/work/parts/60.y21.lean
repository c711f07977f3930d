theorem zFill {Z N : Nat} {v : Int32} (hZ : 5000 < Z) (hN : N ≤ 60) : f_X2_init Z N v = some (fun j => if j < N then v else 0) := by
  unfold f_X2_init f_J7_fill_53178
  have h1 := zloop0 (fun F (x : Nat → Int32) i => f_J7_fill_53178_L5 N v F i x) (fun i => fun j => if j < i then v else 0) N (fun j => if j < N then v else 0) (F := Z) (by omega) (fun F => by
    show f_J7_fill_53178_L5 N v (F + 1) _ _ = _
    rw [f_J7_fill_53178_L5]
    simp (disch := omega) only [zpl1, zpl2, zpl3, zob1, zob2, zob3, zlt, zeq, znn, zn9, zat, zput, zaddc, zag, zas, zl2, zl3, zl4, zl5, zl6, zl7, zl8, zl10, zl12, zl16, zl20, zl22, zl23, zl30, zl31, zl32, zl60, zl64, zl80, zl100, zl500, zl580, nI_1, z1I, zadd, if_true, if_false, Nat.lt_irrefl]) (fun F i hi => by
    show f_J7_fill_53178_L5 N v (F + 1) _ _ = f_J7_fill_53178_L5 N v F _ _
    rw [f_J7_fill_53178_L5, if_pos (nI_lt hi (by omega)), zas (by omega) (by omega), zob1, nI_1]
    congr 1
    funext j
    by_cases e : j = i
    · subst e; rw [zus rfl, if_pos (by omega)]
    · rw [zun e]
      have : (j < i + 1) = (j < i) := propext (by omega)
      simp only [this])
  have : (fun j => if j < 0 then v else 0) = fun (_ : Nat) => (0 : Int32) := by funext j; simp
  have h2 : f_J7_fill_53178_L5 N v Z 0 (fun _ => 0) = some (fun j => if j < N then v else 0) := by
    rw [← h1]; show _ = f_J7_fill_53178_L5 N v Z 0 _; rw [this]
  rw [h2]; rfl
theorem zmod8 {i : Nat} (h : i < 12) : nI i - nI i / 8 * 8 = nI (i % 8) := by
  have : ∀ i, i < 12 → nI i - nI i / 8 * 8 = nI (i % 8) := by decide
  exact this i h
theorem zHomes {Z : Nat} (hZ : 5000 < Z) (w : Nat → Int32) : f_X0_init_L100 Z 0 w = some (fun j => if j < 12 then nI (j % 8) else w j) := by
  have h1 := zloop0 (fun F (x : Nat → Int32) i => f_X0_init_L100 F i x) (fun i => fun j => if j < i then nI (j % 8) else w j) 12 (fun j => if j < 12 then nI (j % 8) else w j) (F := Z) (by omega) (fun F => by
    show f_X0_init_L100 (F + 1) _ _ = _
    rw [f_X0_init_L100, if_neg (by decide)]) (fun F i hi => by
    show f_X0_init_L100 (F + 1) _ _ = f_X0_init_L100 F _ _
    rw [f_X0_init_L100, if_pos (show nI i < 12 from nI_lt (b := 12) hi (by decide)), zput (by omega) (by omega), zmod8 hi, nI_1]
    congr 1
    funext j
    by_cases e : j = i
    · subst e; rw [zus rfl, if_pos (by omega)]
    · rw [zun e]
      have : (j < i + 1) = (j < i) := propext (by omega)
      simp only [this])
  have : (fun j => if j < 0 then nI (j % 8) else w j) = w := by funext j; simp
  rw [← h1]; show _ = f_X0_init_L100 Z 0 _; rw [this]
theorem zR0 {Z : Nat} (hZ : 5000 < Z) : f_X0_init Z = some ((fun j => if j < 60 then 0 else 0), (fun j => if j < 60 then 0 else 0), (fun j => if j < 60 then 0 else 0), (fun j => if j < 24 then 0 else 0), (fun j => if j < 8 then 8 else 0), (fun j => if j < 12 then 40 else 0), (fun j => if j < 12 then 0 else 0), (fun j => if j < 12 then nI (j % 8) else if j < 12 then 0 else 0), (fun j => if j < 12 then 0 else 0)) := by
  unfold f_X0_init f_X5_init
  rw [zFill hZ (by omega), zob1, zob1, zob1, zFill hZ (by omega), zob1, zob4, zFill hZ (by omega), zob1, zFill hZ (by omega), zob1, zFill hZ (by omega), zob1, zob1, zob1, zHomes hZ, zob1]
section mn
variable {v : OV} {b : Nat} {Z : Nat}
theorem yActs (hZ : 35000 < Z) (hv : yV b v) (hb30 : b < 30) (x y : Int32) : ∃ v1, f_L_acts Z v x y = some (1, v1) ∧ yV (b + 1) v1 := by
  obtain ⟨n, S, W, H, T, C, P, O, R, Y, h, r, hs, sn, hb, a⟩ := hv.c
  have ok := hv.ok
  obtain ⟨w, hw, ew⟩ := yLow x (m := 16) (by decide) (by decide)
  have ew : f_L_low x 16 = nI w := ew
  obtain ⟨s, h_s, es⟩ := yLow y (m := 8) (by decide) (by decide)
  have es : f_L_low y 8 = nI s := es
  have q2 : (nI w < 2) = (w < 2) := zlt (b := 2) (by omega) (by omega)
  have q5 : (nI w < 5) = (w < 5) := zlt (b := 5) (by omega) (by omega)
  have q8 : (nI w < 8) = (w < 8) := zlt (b := 8) (by omega) (by omega)
  have q11 : (nI w < 11) = (w < 11) := zlt (b := 11) (by omega) (by omega)
  have p11 : (nI w = 11) = (w = 11) := zeq (b := 11) (by omega) (by omega)
  have p12 : (nI w = 12) = (w = 12) := zeq (b := 12) (by omega) (by omega)
  have p13 : (nI w = 13) = (w = 13) := zeq (b := 13) (by omega) (by omega)
  have p14 : (nI w = 14) = (w = 14) := zeq (b := 14) (by omega) (by omega)
  unfold f_L_acts
  rw [oC1 ok a, zob1, oC8 ok a, zob1, es, oS1 ok a h_s, zob1, ew]
  by_cases c2 : w < 2
  · have d2 : nI w < 2 := by rw [q2]; exact c2
    rw [if_pos d2]
    obtain ⟨i, hi, ei⟩ := yLow (y >>> ((7 : Int32) &&& 31)) (m := 6) (by decide) (by decide)
    have ei : f_L_low (y >>> ((7 : Int32) &&& 31)) 6 = nI i := ei
    rw [ei, z1I]
    exact yA_buy hZ hv a hb hb30 h_s (by omega) (by omega)
  · have d2 : ¬ nI w < 2 := by rw [q2]; exact c2
    rw [if_neg d2]
    by_cases c5 : w < 5
    · have d5 : nI w < 5 := by rw [q5]; exact c5
      rw [if_pos d5]
      obtain ⟨k, hk, ek⟩ := yLow (y >>> ((3 : Int32) &&& 31)) (m := 12) (by decide) (by decide)
      have ek : f_L_low (y >>> ((3 : Int32) &&& 31)) 12 = nI k := ek
      rw [ek]
      exact yA_borrow hZ hv a hb hb30 h_s hk
    · have d5 : ¬ nI w < 5 := by rw [q5]; exact c5
      rw [if_neg d5]
      by_cases c8 : w < 8
      · have d8 : nI w < 8 := by rw [q8]; exact c8
        rw [if_pos d8]
        obtain ⟨k, hk, ek⟩ := yLow (y >>> ((3 : Int32) &&& 31)) (m := 12) (by decide) (by decide)
        have ek : f_L_low (y >>> ((3 : Int32) &&& 31)) 12 = nI k := ek
        obtain ⟨i, hi, ei⟩ := yLow (y >>> ((9 : Int32) &&& 31)) (m := 3) (by decide) (by decide)
        have ei : f_L_low (y >>> ((9 : Int32) &&& 31)) 3 = nI i := ei
        rw [ek, ei]
        exact yA_bring hZ hv a hb hb30 h_s hk hi
      · have d8 : ¬ nI w < 8 := by rw [q8]; exact c8
        rw [if_neg d8]
        by_cases c11 : w < 11
        · have d11 : nI w < 11 := by rw [q11]; exact c11
          rw [if_pos d11]
          obtain ⟨i, hi, ei⟩ := yLow y (m := 10) (by decide) (by decide)
          have ei : f_L_low y 10 = nI i := ei
          obtain ⟨k, hk, ek⟩ := yLow (y >>> ((4 : Int32) &&& 31)) (m := 4) (by decide) (by decide)
          have ek : f_L_low (y >>> ((4 : Int32) &&& 31)) 4 = nI k := ek
          rw [ei, ek]
          exact yA_hour hZ hv a hb hb30 (by omega) (by omega)
        · have d11 : ¬ nI w < 11 := by rw [q11]; exact c11
          rw [if_neg d11]
          by_cases f11 : w = 11
          · have g11 : nI w = 11 := by rw [p11]; exact f11
            rw [if_pos g11]
            obtain ⟨i, hi, ei⟩ := yLow (y >>> ((3 : Int32) &&& 31)) (m := 4) (by decide) (by decide)
            have ei : f_L_low (y >>> ((3 : Int32) &&& 31)) 4 = nI i := ei
            obtain ⟨j, hj, ej⟩ := yLow (y >>> ((5 : Int32) &&& 31)) (m := 20) (by decide) (by decide)
            have ej : f_L_low (y >>> ((5 : Int32) &&& 31)) 20 = nI j := ej
            obtain ⟨k, hk, ek⟩ := yLow (y >>> ((5 : Int32) &&& 31)) (m := 9) (by decide) (by decide)
            have ek : f_L_low (y >>> ((5 : Int32) &&& 31)) 9 = nI k := ek
            obtain ⟨e, he, ee⟩ := yLow (y >>> ((9 : Int32) &&& 31)) (m := 6) (by decide) (by decide)
            have ee : f_L_low (y >>> ((9 : Int32) &&& 31)) 6 = nI e := ee
            have q0 : (nI i = 0) = (i = 0) := zeq (b := 0) (by omega) (by omega)
            rw [ei, ej, ek, ee]
            by_cases c0 : i = 0
            · have d0 : nI i = 0 := by rw [q0]; exact c0
              rw [if_pos d0, z1I, zpl1]
              exact yA_set hZ hv a hb hb30 h_s (by omega) (by omega) (by omega)
            · have d0 : ¬ nI i = 0 := by rw [q0]; exact c0
              rw [if_neg d0, show (3 : Int32) + nI k = nI (3 + k) from nI_add 3 k, zpl1]
              exact yA_set hZ hv a hb hb30 h_s (by omega) (by omega) (by omega)
          · have g11 : ¬ nI w = 11 := by rw [p11]; exact f11
            rw [if_neg g11, oC4 (by omega) ok a, zob1]
            by_cases f12 : w = 12
            · have g12 : nI w = 12 := by rw [p12]; exact f12
              rw [if_pos g12]
              obtain ⟨i, hi, ei⟩ := yLow (y >>> ((3 : Int32) &&& 31)) (m := 2) (by decide) (by decide)
              have ei : f_L_low (y >>> ((3 : Int32) &&& 31)) 2 = nI i := ei
              obtain ⟨j, hj, ej⟩ := yLow (y >>> ((5 : Int32) &&& 31)) (m := 6) (by decide) (by decide)
              have ej : f_L_low (y >>> ((5 : Int32) &&& 31)) 6 = nI j := ej
              rw [ei, ej, z1I]
              exact yA_load hZ hv a hb hb30 h_s hi (by omega) (by omega)
            · have g12 : ¬ nI w = 12 := by rw [p12]; exact f12
              rw [if_neg g12]
              by_cases f13 : w = 13
              · have g13 : nI w = 13 := by rw [p13]; exact f13
                rw [if_pos g13]
                obtain ⟨i, hi, ei⟩ := yLow (y >>> ((3 : Int32) &&& 31)) (m := 2) (by decide) (by decide)
                have ei : f_L_low (y >>> ((3 : Int32) &&& 31)) 2 = nI i := ei
                obtain ⟨j, hj, ej⟩ := yLow (y >>> ((5 : Int32) &&& 31)) (m := 6) (by decide) (by decide)
                have ej : f_L_low (y >>> ((5 : Int32) &&& 31)) 6 = nI j := ej
                rw [ei, ej, z1I]
                exact yA_unload hZ hv a hb hb30 h_s hi (by omega) (by omega)
              · have g13 : ¬ nI w = 13 := by rw [p13]; exact f13
                rw [if_neg g13]
                by_cases f14 : w = 14
                · have g14 : nI w = 14 := by rw [p14]; exact f14
                  rw [if_pos g14]
                  obtain ⟨i, hi, ei⟩ := yLow (y >>> ((3 : Int32) &&& 31)) (m := 2) (by decide) (by decide)
                  have ei : f_L_low (y >>> ((3 : Int32) &&& 31)) 2 = nI i := ei
                  rw [ei]
                  exact yA_work hZ hv a hb hb30 h_s hi
                · have g14 : ¬ nI w = 14 := by rw [p14]; exact f14
                  rw [if_neg g14]
                  obtain ⟨i, hi, ei⟩ := yLow y (m := 2) (by decide) (by decide)
                  have ei : f_L_low y 2 = nI i := ei
                  obtain ⟨j, hj, ej⟩ := yLow (y >>> ((3 : Int32) &&& 31)) (m := 10) (by decide) (by decide)
                  have ej : f_L_low (y >>> ((3 : Int32) &&& 31)) 10 = nI j := ej
                  rw [ei, ej]
                  exact yA_level hZ hv a hb hb30 (by omega) (by omega)
end mn
def yC0 : CV := ovC ((fun j => if j < 60 then 0 else 0), (fun j => if j < 60 then 0 else 0), (fun j => if j < 60 then 0 else 0), (fun j => if j < 24 then 0 else 0), (fun j => if j < 8 then 8 else 0), (fun j => if j < 12 then 40 else 0), (fun j => if j < 12 then 0 else 0), (fun j => if j < 12 then nI (j % 8) else if j < 12 then 0 else 0), (fun j => if j < 12 then 0 else 0))
theorem yC0_ok : yC 0 (fun _ => 0) (fun _ => 0) (fun _ => none) (fun _ => 0) (fun _ => 40) (fun _ => 0) (fun k => k % 8) (fun _ => 8) (fun _ => 0) 0 1 100 0 yC0 := by
  refine ⟨⟨by omega, rfl, fun u hu => by omega, fun u => Nat.zero_le _, fun u _ => rfl, fun u hu => by omega, fun u hu => ?_, fun s hs => ?_⟩, ⟨fun k hk u => ?_, fun k hk => ?_, fun k hk => ?_, fun k hk => ?_⟩, ⟨fun s hs => ?_, rfl, rfl, rfl, rfl, by omega, by omega, ?_, ?_, fun u hu => ?_, fun u _ => rfl, rfl, fun u hu => by omega⟩⟩
  · show (if u < 60 then (0 : Int32) else 0) = _
    rw [if_pos hu]; rfl
  · show (if s < 24 then (0 : Int32) else 0) = _
    rw [if_pos hs]; rfl
  · constructor
    · intro e; cases e
    · rintro ⟨x, -⟩; omega
  · refine ⟨?_, Nat.zero_le _, fun _ => rfl⟩
    show (if k < 12 then (0 : Int32) else 0) = _
    rw [if_pos hk]; rfl
  · refine ⟨?_, ?_, by simp⟩
    · show (if k < 12 then (40 : Int32) else 0) = _
      rw [if_pos hk]; rfl
    · show (if k < 12 then (0 : Int32) else 0) = _
      rw [if_pos hk]; rfl
  · refine ⟨?_, Nat.mod_lt _ (by decide)⟩
    show (if k < 12 then nI (k % 8) else _) = _
    rw [if_pos hk]
  · refine ⟨?_, ?_, ?_⟩
    · show (if s < 8 then (8 : Int32) else 0) = _
      rw [if_pos hs]; rfl
    · show 8 ≤ 20
      omega
    · show 0 ≤ 8
      omega
  · decide
  · decide
  · show (if u < 60 then (0 : Int32) else 0) = _
    rw [if_pos hu]; rfl
theorem yV0 : yV 0 (ov0 yC0) := by
  have hr : yR 0 yC0 := ⟨_, _, _, _, _, _, _, _, _, _, _, _, _, _, Nat.le_refl 0, yC0_ok⟩
  have h1 : ySV 0 (yC0, yC0, yC0, 0, 0) := ⟨Or.inl rfl, Or.inl rfl, hr, fun _ => hr, fun _ => hr⟩
  exact ⟨h1, by decide, ⟨0, by omega, rfl⟩, fun _ => h1⟩
theorem yStart {Z : Nat} (hZ : 35000 < Z) (x : Int32) : ∃ v1 v2 v3 v4 v5 : OV, m_undo (ov0 yC0) = some (-2, v1) ∧ m_restore v1 0 = some (-2, v2) ∧ m_buy Z v2 0 4 = some (0, v3) ∧ m_undo v3 = some (0, v4) ∧ m_buy Z v4 (f_L_low x 8) 6 = some (0, v5) ∧ yV 1 v5 := by
  have ok := yV0.ok
  obtain ⟨s, hs, es⟩ := yLow x (m := 8) (by decide) (by decide)
  have es : f_L_low x 8 = nI s := es
  have k0 : ∀ s, zc (fun _ => 0) s 0 = 0 := fun _ => rfl
  have k1 : zk (fun _ => 0) 1 0 = 0 := rfl
  have b1 := yBuy (Z := Z) (v := ov0 yC0) (s := 0) (m := 4) (by omega) ok yC0_ok (by omega) (by omega) (by omega)
  rw [k0, k1] at b1
  rcases b1 with ⟨c1, -⟩ | ⟨c1, -⟩ | ⟨-, -, -, c', S', e1, a', -⟩
  · omega
  · omega
  · have hrc : yR 0 c' := ⟨_, _, _, _, _, _, _, _, _, _, _, _, _, _, Nat.le_refl 0, a'⟩
    obtain ⟨z, v4, u1, u2, u3, u4, u5⟩ := yUndoW yV0 hrc
    have z0 : nI z = 0 := by rw [u5]; decide
    rw [z0] at u1
    have a4 : yC 0 (fun _ => 0) (fun _ => 0) (fun _ => none) (fun _ => 0) (fun _ => 40) (fun _ => 0) (fun k => k % 8) (fun _ => 8) (fun _ => 0) 0 1 100 0 v4.1 := by rw [u3]; exact yC0_ok
    have b2 := yBuy (Z := Z) (v := v4) (s := s) (m := 6) (by omega) u4.ok a4 hs (by omega) (by omega)
    rw [k0, k1] at b2
    rcases b2 with ⟨c1, -⟩ | ⟨c1, -⟩ | ⟨-, -, -, c5, S5, e5, a5, -⟩
    · omega
    · omega
    · have e5' : m_buy Z v4 (f_L_low x 8) 6 = some (0, yW v4 c5) := by rw [es]; exact e5
      exact ⟨_, _, _, v4, _, yUndo0 ok rfl, yRest0 ok rfl, e1, u1, e5', u4.w (by omega) ⟨_, _, _, _, _, _, _, _, _, _, _, _, _, _, by omega, a5⟩⟩
