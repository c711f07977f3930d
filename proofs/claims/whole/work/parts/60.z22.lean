theorem zFill {Z N : Nat} {v : Int32} (hZ : 5000 < Z) (hN : N ≤ 60) : f_X2_init Z N v = some (fun j => if j < N then v else 0) := by
  unfold f_X2_init f_J7_fill_53178
  have h1 := zloop0 (fun F (x : Nat → Int32) i => f_J7_fill_53178_L5 N v F i x) (fun i => fun j => if j < i then v else 0) N (fun j => if j < N then v else 0) (F := Z) (by omega) (fun F => by
    show f_J7_fill_53178_L5 N v (F + 1) _ _ = _
    rw [f_J7_fill_53178_L5]
    simp (disch := omega) only [zpl1, zpl2, zpl3, zob1, zob2, zob3, zlt, zeq, znn, zn9, zat, zput, zaddc, zag, zas, zl2, zl3, zl4, zl5, zl7, zl8, zl10, zl11, zl12, zl16, zl20, zl22, zl23, zl31, zl32, zl60, zl64, zl80, zl100, zl121, zl181, zl241, zl249, zl261, zl273, zl285, zl297, zl309, zl321, zl322, zl323, zl324, zl325, zl326, zl327, zl500, zl61, zl328, zl329, zl657, zl986, nI_1, z1I, zadd, if_true, if_false, Nat.lt_irrefl]) (fun F i hi => by
    show f_J7_fill_53178_L5 N v (F + 1) _ _ = f_J7_fill_53178_L5 N v F _ _
    rw [f_J7_fill_53178_L5, if_pos (nI_lt hi (by omega)), zas (by omega) (by omega), zob1, nI_1]
    congr 1
    funext j
    by_cases e : j = i
    · subst e; rw [zus rfl, if_pos (by omega)]
    · rw [zun e]
      have : (j < i + 1) = (j < i) := propext (by omega)
      simp only [this])
  have : (fun j => if j < 0 then v else 0) = fun (_ : Nat) => (0 : Int32) := by funext j; simp
  have h2 : f_J7_fill_53178_L5 N v Z 0 (fun _ => 0) = some (fun j => if j < N then v else 0) := by
    rw [← h1]; show _ = f_J7_fill_53178_L5 N v Z 0 _; rw [this]
  rw [h2]; rfl
theorem zmod8 {i : Nat} (h : i < 12) : nI i - nI i / 8 * 8 = nI (i % 8) := by
  have : ∀ i, i < 12 → nI i - nI i / 8 * 8 = nI (i % 8) := by decide
  exact this i h
theorem zHomes {Z : Nat} (hZ : 5000 < Z) (w : Nat → Int32) : f_X0_init_L100 Z 0 w = some (fun j => if j < 12 then nI (j % 8) else w j) := by
  have h1 := zloop0 (fun F (x : Nat → Int32) i => f_X0_init_L100 F i x) (fun i => fun j => if j < i then nI (j % 8) else w j) 12 (fun j => if j < 12 then nI (j % 8) else w j) (F := Z) (by omega) (fun F => by
    show f_X0_init_L100 (F + 1) _ _ = _
    rw [f_X0_init_L100, if_neg (by decide)]) (fun F i hi => by
    show f_X0_init_L100 (F + 1) _ _ = f_X0_init_L100 F _ _
    rw [f_X0_init_L100, if_pos (show nI i < 12 from nI_lt (b := 12) hi (by decide)), zput (by omega) (by omega), zmod8 hi, nI_1]
    congr 1
    funext j
    by_cases e : j = i
    · subst e; rw [zus rfl, if_pos (by omega)]
    · rw [zun e]
      have : (j < i + 1) = (j < i) := propext (by omega)
      simp only [this])
  have : (fun j => if j < 0 then nI (j % 8) else w j) = w := by funext j; simp
  rw [← h1]; show _ = f_X0_init_L100 Z 0 _; rw [this]
theorem zR0 {Z : Nat} (hZ : 5000 < Z) : f_X0_init Z = some ((fun j => if j < 60 then 0 else 0), (fun j => if j < 60 then 0 else 0), (fun j => if j < 60 then 0 else 0), (fun j => if j < 24 then 0 else 0), (fun j => if j < 8 then 8 else 0), (fun j => if j < 12 then 40 else 0), (fun j => if j < 12 then 0 else 0), (fun j => if j < 12 then nI (j % 8) else if j < 12 then 0 else 0), (fun j => if j < 12 then 0 else 0)) := by
  unfold f_X0_init f_X5_init
  rw [zFill hZ (by omega), zob1, zob1, zob1, zFill hZ (by omega), zob1, zob4, zFill hZ (by omega), zob1, zFill hZ (by omega), zob1, zFill hZ (by omega), zob1, zob1, zob1, zHomes hZ, zob1]
def zm0 : Nat → Int32 := upd (upd (fun j => if 249 ≤ j ∧ j < 261 then 40 else if 261 ≤ j ∧ j < 273 then -1 else if 297 ≤ j ∧ j < 309 then nI ((j - 297) % 8) else if 241 ≤ j ∧ j < 249 then 8 else 0) 321 100) 327 1
theorem zM0 {Z : Nat} (hZ : 5000 < Z) : f_X7_init Z = some zm0 := by
  unfold f_X7_init
  have h1 := zloop0 (fun F (x : Nat → Int32) i => f_X7_init_L41 F i x) (fun i => fun j => if 241 ≤ j ∧ j < 241 + i then 8 else 0) 8 (fun j => if 241 ≤ j ∧ j < 249 then 8 else 0) (F := Z) (by omega) (fun F => by
    show f_X7_init_L41 (F + 1) _ _ = _
    rw [f_X7_init_L41, if_neg (by decide)]) (fun F i hi => by
    show f_X7_init_L41 (F + 1) _ _ = f_X7_init_L41 F _ _
    rw [f_X7_init_L41, if_pos (show nI i < 8 from nI_lt (b := 8) hi (by decide)), show (241 : Int32) = nI 241 from rfl, zadd, zas (by omega) (by omega), zob1, nI_1]
    congr 1
    funext j
    by_cases e : j = 241 + i
    · subst e; rw [zus rfl, if_pos (by omega)]
    · rw [zun e]
      have : (241 ≤ j ∧ j < 241 + (i + 1)) = (241 ≤ j ∧ j < 241 + i) := propext (by omega)
      simp only [this])
  have e1 : (fun j => if 241 ≤ j ∧ j < 241 + 0 then (8 : Int32) else 0) = fun (_ : Nat) => (0 : Int32) := by funext j; rw [if_neg (by omega)]
  have h2 : f_X7_init_L41 Z 0 (fun _ => 0) = some (fun j => if 241 ≤ j ∧ j < 249 then 8 else 0) := by
    rw [← h1]; show _ = f_X7_init_L41 Z 0 _; rw [e1]
  let w : Nat → Int32 := fun j => if 241 ≤ j ∧ j < 249 then 8 else 0
  have h3 := zloop0 (fun F (x : Nat → Int32) i => f_X7_init_L67 F i x) (fun i => fun j => if 249 ≤ j ∧ j < 249 + i then 40 else if 261 ≤ j ∧ j < 261 + i then -1 else if 297 ≤ j ∧ j < 297 + i then nI ((j - 297) % 8) else w j) 12 (fun j => if 249 ≤ j ∧ j < 261 then 40 else if 261 ≤ j ∧ j < 273 then -1 else if 297 ≤ j ∧ j < 309 then nI ((j - 297) % 8) else w j) (F := Z) (by omega) (fun F => by
    show f_X7_init_L67 (F + 1) _ _ = _
    rw [f_X7_init_L67, if_neg (by decide)]) (fun F i hi => by
    show f_X7_init_L67 (F + 1) _ _ = f_X7_init_L67 F _ _
    rw [f_X7_init_L67, if_pos (show nI i < 12 from nI_lt (b := 12) hi (by decide)), show (249 : Int32) = nI 249 from rfl, show (261 : Int32) = nI 261 from rfl, show (297 : Int32) = nI 297 from rfl, zadd, zadd, zadd, zas (by omega) (by omega), zob1, zas (by omega) (by omega), zob1, zas (by omega) (by omega), zob1, zmod8 hi, nI_1]
    congr 1
    funext j
    by_cases e1 : j = 249 + i
    · subst e1; rw [zun (by omega), zun (by omega), zus rfl, if_pos (by omega)]
    · by_cases e2 : j = 261 + i
      · subst e2; rw [zun (by omega), zus rfl, if_neg (by omega), if_pos (by omega)]
      · by_cases e3 : j = 297 + i
        · subst e3; rw [zus rfl, if_neg (by omega), if_neg (by omega), if_pos (by omega), show 297 + i - 297 = i by omega]
        · rw [zun e3, zun e2, zun e1]
          have a1 : (249 ≤ j ∧ j < 249 + (i + 1)) = (249 ≤ j ∧ j < 249 + i) := propext (by omega)
          have a2 : (261 ≤ j ∧ j < 261 + (i + 1)) = (261 ≤ j ∧ j < 261 + i) := propext (by omega)
          have a3 : (297 ≤ j ∧ j < 297 + (i + 1)) = (297 ≤ j ∧ j < 297 + i) := propext (by omega)
          simp only [a1, a2, a3])
  have e2 : (fun j => if 249 ≤ j ∧ j < 249 + 0 then (40 : Int32) else if 261 ≤ j ∧ j < 261 + 0 then -1 else if 297 ≤ j ∧ j < 297 + 0 then nI ((j - 297) % 8) else w j) = w := by
    funext j; rw [if_neg (by omega), if_neg (by omega), if_neg (by omega)]
  have h4 : f_X7_init_L67 Z 0 w = some (fun j => if 249 ≤ j ∧ j < 261 then 40 else if 261 ≤ j ∧ j < 273 then -1 else if 297 ≤ j ∧ j < 309 then nI ((j - 297) % 8) else w j) := by
    rw [← h3]; show _ = f_X7_init_L67 Z 0 _; rw [e2]
  rw [h2, zob1, h4, zob1]
  rfl
theorem zSt0 : zRT (lstC ((fun j => if j < 60 then 0 else 0), (fun j => if j < 60 then 0 else 0), (fun j => if j < 60 then 0 else 0), (fun j => if j < 24 then 0 else 0), (fun j => if j < 8 then 8 else 0), (fun j => if j < 12 then 40 else 0), (fun j => if j < 12 then 0 else 0), (fun j => if j < 12 then nI (j % 8) else if j < 12 then 0 else 0), (fun j => if j < 12 then 0 else 0))) zm0 := by
  refine ⟨0, fun _ => 0, fun _ => 0, fun _ => none, fun _ => 0, fun _ => 40, fun _ => 0, fun k => k % 8, 0, 1, by omega, ⟨by omega, rfl, fun u hu => by omega, fun u => Nat.zero_le _, fun u _ => rfl, fun u hu => by omega, fun u hu => ?_, fun s hs => ?_⟩, ⟨by omega, ?_, fun u hu => by omega, fun u => Nat.zero_le _, fun u hu => by omega, fun u hu => by omega, fun u hu => by omega⟩, ⟨fun u hu => by omega, fun u _ hu => ?_⟩, ⟨fun k hk u => ?_, fun k hk => ?_, fun k hk => ?_, fun k hk => ?_, fun k hk => ?_, fun k hk => ?_⟩, ⟨fun s hs => ?_, rfl, ?_, ?_, ?_, ?_, ?_, ?_, rfl, ?_, by omega, by omega⟩⟩
  · show (if u < 60 then (0 : Int32) else 0) = _
    rw [if_pos hu]; rfl
  · show (if s < 24 then (0 : Int32) else 0) = _
    rw [if_pos hs]; rfl
  · unfold zm0; rw [zun (by omega), zun (by omega)]; rfl
  · show (if u < 60 then (0 : Int32) else 0) = 0
    rw [if_pos hu]
  · constructor
    · intro e; cases e
    · rintro ⟨x, -⟩; omega
  · unfold zm0; rw [zun (by omega), zun (by omega), if_neg (by omega), if_pos (by omega)]; rfl
  · refine ⟨?_, ?_, Nat.zero_le _, fun _ => rfl⟩
    · show (if k < 12 then (0 : Int32) else 0) = _
      rw [if_pos hk]; rfl
    · unfold zm0; rw [zun (by omega), zun (by omega), if_neg (by omega), if_neg (by omega), if_neg (by omega), if_neg (by omega)]; rfl
  · unfold zm0; rw [zun (by omega), zun (by omega), if_neg (by omega), if_neg (by omega), if_neg (by omega), if_neg (by omega)]; rfl
  · refine ⟨?_, ?_, ?_, ?_, by simp⟩
    · show (if k < 12 then (40 : Int32) else 0) = _
      rw [if_pos hk]; rfl
    · unfold zm0; rw [zun (by omega), zun (by omega), if_pos (by omega)]; rfl
    · show (if k < 12 then (0 : Int32) else 0) = _
      rw [if_pos hk]; rfl
    · unfold zm0; rw [zun (by omega), zun (by omega), if_neg (by omega), if_neg (by omega), if_neg (by omega), if_neg (by omega)]; rfl
  · refine ⟨?_, ?_, Nat.mod_lt _ (by decide)⟩
    · show (if k < 12 then nI (k % 8) else _) = _
      rw [if_pos hk]
    · unfold zm0; rw [zun (by omega), zun (by omega), if_neg (by omega), if_neg (by omega), if_pos (by omega), show 297 + k - 297 = k by omega]
  · unfold zm0; rw [zun (by omega), zun (by omega), if_neg (by omega), if_neg (by omega), if_neg (by omega), if_pos (by omega)]
    show _ = if s < 8 then (8 : Int32) else 0
    rw [if_pos hs]
  · unfold zm0; rw [zun (by omega), zun (by omega), if_neg (by omega), if_neg (by omega), if_neg (by omega), if_neg (by omega)]; rfl
  · unfold zm0; rw [zun (by omega), zus rfl]; rfl
  · unfold zm0; rw [zun (by omega), zun (by omega), if_neg (by omega), if_neg (by omega), if_neg (by omega), if_neg (by omega)]; rfl
  · unfold zm0; rw [zun (by omega), zun (by omega), if_neg (by omega), if_neg (by omega), if_neg (by omega), if_neg (by omega)]; rfl
  · unfold zm0; rw [zun (by omega), zun (by omega), if_neg (by omega), if_neg (by omega), if_neg (by omega), if_neg (by omega)]; rfl
  · unfold zm0; rw [zun (by omega), zun (by omega), if_neg (by omega), if_neg (by omega), if_neg (by omega), if_neg (by omega)]; rfl
  · unfold zm0; rw [zus rfl]; rfl
