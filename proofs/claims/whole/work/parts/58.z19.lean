def zTx (m : Nat) (ch tx : Nat → Int32) : Prop := ∀ i, i < m → ∃ x, 1 ≤ x ∧ x ≤ 255 ∧ ch i = nI x ∧ tx i = nI x
theorem zchr {x : Nat} (h : x ≤ 255) : vp_nar .char (((nI x).toUInt32 % 65536).toInt32) = nI x := by
  have : ∀ x, x < 256 → vp_nar .char (((nI x).toUInt32 % 65536).toInt32) = nI x := by decide +kernel
  exact this x (by omega)
theorem zz_append {m : Nat} {ch tx : Nat → Int32} (hm : m ≤ 80) (a : zTx m ch tx) (p1 : Int32) : ∃ r ch' tx' m', m' ≤ 80 ∧ f_X6_append ch (nI m) p1 = (r, ch', nI m') ∧ f_X7_append tx (nI m) p1 = some (r, tx', nI m') ∧ zTx m' ch' tx' := by
  unfold f_X6_append f_X7_append
  rcases zs255 p1 with ⟨x, hx1, hx, rfl, e1, e2⟩ | ⟨e1, e2⟩
  · simp only [e1, e2, if_true, if_false, z10]
    have q1 : (nI m < 80) = (m < 80) := zlt (b := 80) (by omega) (by omega)
    have q2 : (nI m = 80) = (m = 80) := zeq (b := 80) (by omega) (by omega)
    simp only [q1, q2]
    by_cases c : m < 80
    · rw [if_pos c, if_neg (by omega)]
      unfold f_X4_add
      rw [if_neg (nI_pos (by omega)), if_pos (by rw [q1]; exact c), nI_clamp (by omega), zchr hx, zas (by omega) (by omega), zob1, zpl2, nI_1]
      refine ⟨_, _, _, m + 1, by omega, rfl, rfl, fun i hi => ?_⟩
      by_cases e : i = m
      · exact ⟨x, hx1, hx, zus e, zus e⟩
      · rw [zun e, zun e]; exact a i (by omega)
    · rw [if_neg c, if_pos (by omega)]
      exact ⟨_, _, _, m, hm, rfl, rfl, a⟩
  · simp only [e1, e2, if_true, if_false, z10]
    exact ⟨_, _, _, m, hm, rfl, rfl, a⟩
section tx
variable {m : Nat} {ch tx : Nat → Int32}
/-- what stands at a place: a character in both, or the end -/
theorem zPk (hm : m ≤ 80) (a : zTx m ch tx) {i : Nat} (hi : i ≤ m) : (i < m ∧ ∃ x, 1 ≤ x ∧ x ≤ 255 ∧ f_X4_peek ch (nI m) (nI i) = some (nI x) ∧ f_X7_here tx (nI m) (nI i) = some (nI x)) ∨ (i = m ∧ f_X4_peek ch (nI m) (nI i) = some 0 ∧ f_X7_here tx (nI m) (nI i) = some (-1)) := by
  unfold f_X4_peek f_X7_here
  rw [if_neg (nI_pos (by omega))]
  have q1 : (nI i < nI m) = (i < m) := zlt (by omega) (by omega)
  have q2 : (nI i < 80) = (i < 80) := zlt (b := 80) (by omega) (by omega)
  simp only [q1, q2]
  by_cases c : i < m
  · left
    obtain ⟨x, h1, h2, h3, h4⟩ := a i c
    refine ⟨c, x, h1, h2, ?_, ?_⟩
    · rw [if_pos c, if_pos (by omega), zpl1, if_neg (by decide), zag (by omega) (by omega), zob1, h3]
    · rw [if_pos c, zag (by omega) (by omega), zob1, h4]
  · right
    refine ⟨by omega, ?_, ?_⟩
    · rw [if_neg c, zpl1, if_pos rfl]
    · rw [if_neg c]
theorem zAc (hm : m ≤ 80) (a : zTx m ch tx) {i k : Nat} (hi : i ≤ m) (hk : 1 ≤ k) (hk2 : k ≤ 255) : (i < m ∧ f_X4_accept ch (nI m) (nI i) (nI k) = some (1, nI (i + 1)) ∧ f_X7_passes_ tx (nI m) (nI i) (nI k) = some (1, nI (i + 1))) ∨ (f_X4_accept ch (nI m) (nI i) (nI k) = some (0, nI i) ∧ f_X7_passes_ tx (nI m) (nI i) (nI k) = some (0, nI i)) := by
  unfold f_X4_accept f_X7_passes_
  rcases zPk hm a hi with ⟨c, x, h1, h2, h3, h4⟩ | ⟨c, h3, h4⟩
  · rw [h3, h4, zob1, zob1]
    have q1 : (nI x = nI k) = (x = k) := zeq (by omega) (by omega)
    simp only [q1]
    by_cases e : x = k
    · left
      refine ⟨c, by rw [if_pos e, nI_1], ?_⟩
      rw [if_pos e, zpl1, if_neg (by decide), zpl1, nI_1]
    · right
      refine ⟨by rw [if_neg e], ?_⟩
      rw [if_neg e, zpl1, if_pos rfl, zpl1, Int32.add_zero]
  · right
    rw [h3, h4, zob1, zob1]
    have q1 : ¬ (0 : Int32) = nI k := fun e => by have := (nI_eq (a := 0) (b := k) (by omega) (by omega)).1 e; omega
    have q2 : ¬ (-1 : Int32) = nI k := fun e => by have := zn1 (a := k) (by omega); rw [← e] at this; simp at this
    refine ⟨by rw [if_neg q1], ?_⟩
    rw [if_neg q2, zpl1, if_pos rfl, zpl1, Int32.add_zero]
theorem zr4857 (x : Nat) (hx : x ≤ 255) : (48 ≤ x ∧ x ≤ 57 ∧ f_X6_outside (nI x) 48 57 = 0 ∧ f_X7_in (nI x) 48 57 = 1) ∨ (¬ (48 ≤ x ∧ x ≤ 57) ∧ f_X6_outside (nI x) 48 57 = 1 ∧ f_X7_in (nI x) 48 57 = 0) := by
  have q1 : (nI x < 48) = (x < 48) := zlt (b := 48) (by omega) (by omega)
  have q2 : (57 < nI x) = (57 < x) := zlt (a := 57) (by omega) (by omega)
  unfold f_X6_outside f_X7_in
  simp only [q1, q2]
  by_cases c1 : x < 48
  · right; simp only [c1, if_true]; exact ⟨by omega, trivial, trivial⟩
  · by_cases c2 : 57 < x
    · right; simp only [c1, c2, if_true, if_false]; exact ⟨by omega, trivial, trivial⟩
    · left; simp only [c1, c2, if_false]; exact ⟨by omega, by omega, trivial, trivial⟩
/-- a digit, in both -/
theorem zDg (hm : m ≤ 80) (a : zTx m ch tx) {i : Nat} (hi : i ≤ m) : (i < m ∧ ∃ d, d ≤ 9 ∧ f_X4_readDigit ch (nI m) (nI i) = some (nI d, nI (i + 1)) ∧ f_X7_here tx (nI m) (nI i) = some (nI (48 + d)) ∧ f_X7_in (nI (48 + d)) 48 57 = 1) ∨ (f_X4_readDigit ch (nI m) (nI i) = some (-9, nI i) ∧ ∃ b, f_X7_here tx (nI m) (nI i) = some b ∧ f_X7_in b 48 57 = 0) := by
  unfold f_X4_readDigit
  rcases zPk hm a hi with ⟨c, x, h1, h2, h3, h4⟩ | ⟨c, h3, h4⟩
  · rw [h3, h4, zob1]
    rcases zr4857 x h2 with ⟨d1, d2, d3, d4⟩ | ⟨d1, d3, d4⟩
    · left
      refine ⟨c, x - 48, by omega, ?_, by rw [show 48 + (x - 48) = x by omega], by rw [show 48 + (x - 48) = x by omega]; exact d4⟩
      rw [d3, if_pos rfl, nI_1, show (48 : Int32) = nI 48 from rfl, zsub d1]
    · right
      exact ⟨by rw [d3, if_neg (by decide)], _, rfl, d4⟩
  · right
    rw [h3, h4, zob1]
    exact ⟨by rw [show f_X6_outside 0 48 57 = 1 by decide, if_neg (by decide)], _, rfl, by decide⟩
theorem zNm (hm : m ≤ 80) (a : zTx m ch tx) {i : Nat} (hi : i ≤ m) : (∃ v j, v < 100 ∧ i < j ∧ j ≤ m ∧ f_X4_readNumber ch (nI m) (nI i) = some (nI v, nI j) ∧ ∀ nu, f_X7_readNumber tx (nI m) (nI i) nu = some (1, nI j, nI v)) ∨ (f_X4_readNumber ch (nI m) (nI i) = some (-9, nI i) ∧ ∀ nu, f_X7_readNumber tx (nI m) (nI i) nu = some (0, nI i, nu)) := by
  unfold f_X4_readNumber f_X7_readNumber
  rcases zDg hm a hi with ⟨c, d, hd, h1, h2, h3⟩ | ⟨h1, b, h2, h3⟩
  · left
    have e48 : nI (48 + d) - 48 = nI d := by rw [show (48 : Int32) = nI 48 from rfl, zsub (by omega)]; congr 1; omega
    have q0 : (0 < nI d) = (0 < d) := zlt (a := 0) (by omega) (by omega)
    simp only [h1, h2, zob2, zob1, h3, z10, if_false, e48, nI_1, q0]
    by_cases hd0 : 0 < d
    · simp only [hd0, if_true]
      rcases zDg hm a (i := i + 1) (by omega) with ⟨c', d', hd', g1, g2, g3⟩ | ⟨g1, b', g2, g3⟩
      · refine ⟨10 * d + d', i + 2, by omega, by omega, by omega, ?_, fun nu => ?_⟩
        · rw [g1, zob2, if_neg (by rw [zn9 (by omega)]; simp), show (10 : Int32) = nI 10 from rfl, zmul, zadd]
        · rw [g2, zob1, g3, if_neg (by decide), zob1, zob2, show (10 : Int32) = nI 10 from rfl, zmul, zadd, show (48 : Int32) = nI 48 from rfl, zsub (by omega), show 10 * d + (48 + d') - 48 = 10 * d + d' by omega]
      · refine ⟨d, i + 1, by omega, by omega, by omega, ?_, fun nu => ?_⟩
        · rw [g1, zob2, if_pos rfl]
        · rw [g2, zob1, g3, if_pos rfl, zob2]
    · simp only [hd0, if_false]
      exact ⟨d, i + 1, by omega, by omega, by omega, rfl, fun nu => rfl⟩
  · right
    simp only [h1, h2, zob2, zob1, h3, if_true]
    exact ⟨by rw [if_neg (by decide)], fun nu => trivial⟩
/-- first number, sign between, second number -/
theorem zNs (hm : m ≤ 80) (a : zTx m ch tx) {i k : Nat} (hi : i ≤ m) (hk : 1 ≤ k) (hk2 : k ≤ 255) (se : Int32) (one two nu : Int32) : ∃ ok pos fi' se' on tw nu', f_X4_readNumbers ch (nI m) (nI i) se (nI k) = some (ok, nI pos, fi', se') ∧ (ob3 (f_X7_readNumber tx (nI m) (nI i) nu) (fun b4 b5 b6 => if b4 = 0 then some ((0 : Int32), b5, one, two, b6) else ob2 (f_X7_passes_ tx (nI m) b5 (nI k)) (fun b11 b12 => if b11 = 0 then some (0, b12, b6, two, b6) else ob3 (f_X7_readNumber tx (nI m) b12 b6) (fun b14 b15 b16 => if b14 = 0 then some (0, b15, b6, two, b16) else some (1, b15, b6, b16, b16))))) = some (ok, nI pos, on, tw, nu') ∧ (ok = 0 ∨ ok = 1) ∧ i ≤ pos ∧ pos ≤ m ∧ (ok = 1 → fi' = on ∧ se' = tw) := by
  unfold f_X4_readNumbers
  rcases zNm hm a hi with ⟨v, j, hv, hij, hj, h1, h2⟩ | ⟨h1, h2⟩
  · rw [h1, h2, zob2, zob3, if_neg (by rw [zn9 (by omega)]; simp), if_neg (by decide)]
    rcases zAc hm a hj hk hk2 with ⟨c, g1, g2⟩ | ⟨g1, g2⟩
    · rw [g1, g2, zob2, zob2, if_neg (by decide), if_neg (by decide)]
      rcases zNm hm a (i := j + 1) (by omega) with ⟨v', j', hv', hij', hj', l1, l2⟩ | ⟨l1, l2⟩
      · rw [l1, l2, zob2, zob3, if_neg (by rw [zn9 (by omega)]; simp), if_neg (by decide)]
        exact ⟨1, j', _, _, _, _, _, rfl, rfl, Or.inr rfl, by omega, by omega, fun _ => ⟨rfl, rfl⟩⟩
      · rw [l1, l2, zob2, zob3, if_pos rfl, if_pos rfl]
        exact ⟨0, j + 1, _, _, _, _, _, rfl, rfl, Or.inl rfl, by omega, by omega, fun e => absurd e (by decide)⟩
    · rw [g1, g2, zob2, zob2, if_pos rfl, if_pos rfl]
      exact ⟨0, j, _, _, _, _, _, rfl, rfl, Or.inl rfl, by omega, by omega, fun e => absurd e (by decide)⟩
  · rw [h1, h2, zob2, zob3, if_pos rfl, if_pos rfl]
    exact ⟨0, i, _, _, _, _, _, rfl, rfl, Or.inl rfl, by omega, by omega, fun e => absurd e (by decide)⟩
theorem zRd (hm : m ≤ 80) (a : zTx m ch tx) {i : Nat} (hi : i ≤ m) (fi se one two nu : Int32) : ∃ ok pos vb fi' se' lt on tw nu', f_X4_readOrder ch (nI m) (nI i) fi se = some (ok, nI pos, vb, fi', se') ∧ f_X7_readOrder tx (nI m) (nI i) one two nu = some (ok, nI pos, lt, on, tw, nu') ∧ (ok = 0 ∨ ok = 1) ∧ i ≤ pos ∧ pos ≤ m ∧ (ok = 1 → i < pos ∧ vb = lt ∧ (vb = 98 ∨ vb = 114 ∨ vb = 104 ∨ vb = 108) ∧ (vb ≠ 108 → fi' = on ∧ se' = tw)) := by
  have hsame : ∀ (k : Nat) (b : Int32), i < m → 1 ≤ k → k ≤ 255 → (b = 98 ∨ b = 114 ∨ b = 104) → ∃ ok pos fi' se' on tw nu', ob4 (f_X4_readNumbers ch (nI m) (nI (i + 1)) se (nI k)) (fun b3 b4 b5 b6 => some (b3, b4, b, b5, b6)) = some (ok, nI pos, b, fi', se') ∧ (ob3 (f_X7_readNumber tx (nI m) (nI (i + 1)) nu) (fun b4 b5 b6 => if b4 = 0 then some ((0 : Int32), b5, b, one, two, b6) else ob2 (f_X7_passes_ tx (nI m) b5 (nI k)) (fun b11 b12 => if b11 = 0 then some (0, b12, b, b6, two, b6) else ob3 (f_X7_readNumber tx (nI m) b12 b6) (fun b14 b15 b16 => if b14 = 0 then some (0, b15, b, b6, two, b16) else some (1, b15, b, b6, b16, b16))))) = some (ok, nI pos, b, on, tw, nu') ∧ (ok = 0 ∨ ok = 1) ∧ i ≤ pos ∧ pos ≤ m ∧ (ok = 1 → i < pos ∧ b = b ∧ (b = 98 ∨ b = 114 ∨ b = 104 ∨ b = 108) ∧ (b ≠ 108 → fi' = on ∧ se' = tw)) := by
    intro k b him hk hk2 hb
    obtain ⟨ok, pos, fi', se', on, tw, nu', h1, h2, h3, h4, h5, h6⟩ := zNs hm a (i := i + 1) (k := k) (by omega) hk hk2 se one two nu
    refine ⟨ok, pos, fi', se', on, tw, nu', by rw [h1]; rfl, ?_, h3, by omega, h5, fun e => ⟨by omega, rfl, by rcases hb with x | x | x <;> simp [x], fun _ => h6 e⟩⟩
    have hmap : ∀ (o : Option (Int32 × Int32 × Int32)) , (ob3 o (fun b4 b5 b6 => if b4 = 0 then some ((0 : Int32), b5, b, one, two, b6) else ob2 (f_X7_passes_ tx (nI m) b5 (nI k)) (fun b11 b12 => if b11 = 0 then some (0, b12, b, b6, two, b6) else ob3 (f_X7_readNumber tx (nI m) b12 b6) (fun b14 b15 b16 => if b14 = 0 then some (0, b15, b, b6, two, b16) else some (1, b15, b, b6, b16, b16))))) = (ob3 o (fun b4 b5 b6 => if b4 = 0 then some ((0 : Int32), b5, one, two, b6) else ob2 (f_X7_passes_ tx (nI m) b5 (nI k)) (fun b11 b12 => if b11 = 0 then some (0, b12, b6, two, b6) else ob3 (f_X7_readNumber tx (nI m) b12 b6) (fun b14 b15 b16 => if b14 = 0 then some (0, b15, b6, two, b16) else some (1, b15, b6, b16, b16))))).map (fun r => (r.1, r.2.1, b, r.2.2.1, r.2.2.2.1, r.2.2.2.2)) := by
      intro o
      cases o with
      | none => rfl
      | some r =>
        obtain ⟨r1, r2, r3⟩ := r
        rw [zob3, zob3]
        split
        · rfl
        · cases f_X7_passes_ tx (nI m) r2 (nI k) with
          | none => rfl
          | some s =>
            obtain ⟨s1, s2⟩ := s
            rw [zob2, zob2]
            split
            · rfl
            · cases f_X7_readNumber tx (nI m) s2 r3 with
              | none => rfl
              | some t =>
                obtain ⟨t1, t2, t3⟩ := t
                rw [zob3, zob3]
                split <;> rfl
    rw [hmap, h2]; rfl
  unfold f_X4_readOrder f_X7_readOrder
  rcases zPk hm a hi with ⟨c, x, h1, h2, h3, h4⟩ | ⟨c, h3, h4⟩
  · rw [h3, h4, zob1, zob1]
    have hx : ∀ k : Nat, k ≤ 255 → (nI x = nI k) = (x = k) := fun k hk => zeq (by omega) (by omega)
    have x98 : (nI x = 98) = (x = 98) := hx 98 (by omega)
    have x114 : (nI x = 114) = (x = 114) := hx 114 (by omega)
    have x104 : (nI x = 104) = (x = 104) := hx 104 (by omega)
    have x108 : (nI x = 108) = (x = 108) := hx 108 (by omega)
    simp only [x98, x114, x104, x108, nI_1]
    by_cases c1 : x = 98
    · subst c1
      obtain ⟨ok, pos, fi', se', on, tw, nu', g1, g2, g3, g4, g5, g6⟩ := hsame 64 (nI 98) c (by omega) (by omega) (Or.inl rfl)
      rw [if_pos rfl, if_pos rfl, if_neg (by omega), if_neg (by omega)]
      exact ⟨ok, pos, _, fi', se', _, on, tw, nu', g1, g2, g3, g4, g5, g6⟩
    · rw [if_neg c1, if_neg c1]
      by_cases c2 : x = 104
      · subst c2
        obtain ⟨ok, pos, fi', se', on, tw, nu', g1, g2, g3, g4, g5, g6⟩ := hsame 44 (nI 104) c (by omega) (by omega) (Or.inr (Or.inr rfl))
        rw [if_pos rfl, if_neg (by omega), if_pos rfl, if_neg (by omega), if_pos rfl]
        exact ⟨ok, pos, _, fi', se', _, on, tw, nu', g1, g2, g3, g4, g5, g6⟩
      · by_cases c3 : x = 108
        · subst c3
          rw [if_neg (by omega), if_pos rfl, if_neg (by omega), if_neg (by omega), if_pos rfl, if_pos rfl]
          exact ⟨1, i + 1, _, fi, se, _, one, two, nu, rfl, rfl, Or.inr rfl, by omega, by omega, fun _ => ⟨by omega, rfl, Or.inr (Or.inr (Or.inr rfl)), fun e => absurd rfl e⟩⟩
        · by_cases c4 : x = 114
          · subst c4
            obtain ⟨ok, pos, fi', se', on, tw, nu', g1, g2, g3, g4, g5, g6⟩ := hsame 64 (nI 114) c (by omega) (by omega) (Or.inr (Or.inl rfl))
            rw [if_neg (by omega), if_neg (by omega), if_pos rfl, if_pos rfl, if_neg (by omega), if_neg (by omega)]
            exact ⟨ok, pos, _, fi', se', _, on, tw, nu', g1, g2, g3, g4, g5, g6⟩
          · rw [if_neg c2, if_neg c3, if_neg c4, if_neg c4, if_neg c2, if_neg c3]
            exact ⟨0, i, _, _, _, _, _, _, _, rfl, rfl, Or.inl rfl, by omega, by omega, fun e => absurd e (by decide)⟩
  · rw [h3, h4, zob1, zob1]
    rw [if_neg (by decide), if_neg (by decide), if_neg (by decide), if_neg (by decide), if_neg (by decide), if_neg (by decide), if_neg (by decide), if_neg (by decide)]
    exact ⟨0, i, _, _, _, _, _, _, _, rfl, rfl, Or.inl rfl, by omega, by omega, fun e => absurd e (by decide)⟩
theorem zFault (hm : m ≤ 80) (a : zTx m ch tx) : ∀ k i tn Fc Fm vb0 fi se one two nu, m - i ≤ k → i ≤ m → tn ≤ i → k + 2 < Fc → k + 2 < Fm → ∃ flt pos vb fi' se' b1 b2 b3 b4 b5 b6 is at_ lt on tw nu', f_X4_fault_L6 ch (nI m) Fc (nI tn) (nI i) vb0 fi se = some (flt, nI pos, vb, fi', se') ∧ f_X7_readOrder tx (nI m) (nI i) one two nu = some (b1, b2, b3, b4, b5, b6) ∧ f_X7_faultOf_L10 tx (nI m) Fm b1 b2 b3 b4 b5 b6 = some (is, nI at_, lt, on, tw, nu') ∧ at_ ≤ m ∧ ((flt = -9 ∧ is ≠ 0 ∧ at_ = m) ∨ (flt = nI at_ ∧ (is = 0 ∨ at_ ≠ m))) := by
  intro k
  induction k with
  | zero =>
    intro i tn Fc Fm vb0 fi se one two nu hk hi ht hFc hFm
    obtain ⟨Fc, rfl⟩ : ∃ G, Fc = G + 1 := ⟨Fc - 1, by omega⟩
    obtain ⟨Fm, rfl⟩ : ∃ G, Fm = G + 1 := ⟨Fm - 1, by omega⟩
    have him : i = m := by omega
    obtain ⟨ok, pos, vb, fi', se', lt, on, tw, nu', g1, g2, g3, g4, g5, g6⟩ := zRd hm a hi fi se one two nu
    have q80 : ¬ (80 : Int32) < nI tn := by rw [show (80 : Int32) = nI 80 from rfl]; exact nI_nlt (by omega) (by omega)
    rcases g3 with rfl | rfl
    · refine ⟨nI pos, pos, vb, fi', se', 0, nI pos, lt, on, tw, nu', 0, pos, lt, on, tw, nu', ?_, g2, ?_, g5, Or.inr ⟨rfl, Or.inl rfl⟩⟩
      · rw [f_X4_fault_L6, if_neg q80, g1, zob5, if_pos rfl]
      · rw [f_X7_faultOf_L10, if_pos rfl]
    · have := (g6 rfl).1; omega
  | succ k ih =>
    intro i tn Fc Fm vb0 fi se one two nu hk hi ht hFc hFm
    obtain ⟨Fc, rfl⟩ : ∃ G, Fc = G + 1 := ⟨Fc - 1, by omega⟩
    obtain ⟨Fm, rfl⟩ : ∃ G, Fm = G + 1 := ⟨Fm - 1, by omega⟩
    obtain ⟨ok, pos, vb, fi', se', lt, on, tw, nu', g1, g2, g3, g4, g5, g6⟩ := zRd hm a hi fi se one two nu
    have q80 : ¬ (80 : Int32) < nI tn := by rw [show (80 : Int32) = nI 80 from rfl]; exact nI_nlt (by omega) (by omega)
    rcases g3 with rfl | rfl
    · refine ⟨nI pos, pos, vb, fi', se', 0, nI pos, lt, on, tw, nu', 0, pos, lt, on, tw, nu', ?_, g2, ?_, g5, Or.inr ⟨rfl, Or.inl rfl⟩⟩
      · rw [f_X4_fault_L6, if_neg q80, g1, zob5, if_pos rfl]
      · rw [f_X7_faultOf_L10, if_pos rfl]
    · have hip := (g6 rfl).1
      have qlt : (nI pos < nI m) = (pos < m) := zlt (by omega) (by omega)
      have e59 : (59 : Int32) = nI 59 := rfl
      rcases zAc hm a g5 (k := 59) (by omega) (by omega) with ⟨c, l1, l2⟩ | ⟨l1, l2⟩
      · obtain ⟨flt, pos', vb', fi'', se'', b1, b2, b3, b4, b5, b6, is, at_, lt', on', tw', nu'', r1, r2, r3, r4, r5⟩ := ih (pos + 1) (tn + 1) Fc Fm vb fi' se' on tw nu' (by omega) (by omega) (by omega) (by omega) (by omega)
        refine ⟨flt, pos', vb', fi'', se'', 1, nI pos, lt, on, tw, nu', is, at_, lt', on', tw', nu'', ?_, g2, ?_, r4, r5⟩
        · rw [f_X4_fault_L6, if_neg q80, g1, zob5, if_neg (by decide), if_pos (by rw [qlt]; exact c), e59, l1, zob2, if_neg (by decide), nI_1]; exact r1
        · rw [f_X7_faultOf_L10, if_neg (by decide), e59, l2, zob2, if_neg (by decide), r2, zob6]; exact r3
      · have hM : f_X7_faultOf_L10 tx (nI m) (Fm + 1) 1 (nI pos) lt on tw nu' = some (1, nI pos, lt, on, tw, nu') := by
          rw [f_X7_faultOf_L10, if_neg (by decide), e59, l2, zob2, if_pos rfl]
        by_cases c : pos < m
        · refine ⟨nI pos, pos, vb, fi', se', 1, nI pos, lt, on, tw, nu', 1, pos, lt, on, tw, nu', ?_, g2, hM, g5, Or.inr ⟨rfl, Or.inr (by omega)⟩⟩
          rw [f_X4_fault_L6, if_neg q80, g1, zob5, if_neg (by decide), if_pos (by rw [qlt]; exact c), e59, l1, zob2, if_pos rfl]
        · refine ⟨-9, pos, vb, fi', se', 1, nI pos, lt, on, tw, nu', 1, pos, lt, on, tw, nu', ?_, g2, hM, g5, Or.inl ⟨rfl, by decide, by omega⟩⟩
          rw [f_X4_fault_L6, if_neg q80, g1, zob5, if_neg (by decide), if_neg (by rw [qlt]; exact c)]
end tx
theorem zObey {Z : Nat} (hZ : 30000 < Z) {c : CV} {q : Nat → Int32} (a : zRT c q) {vb fi se on tw : Int32} (hv : vb = 98 ∨ vb = 114 ∨ vb = 104 ∨ vb = 108) (hs : vb ≠ 108 → fi = on ∧ se = tw) : ∃ r c' ok q', f_X6_obey Z c vb fi se = some (r, c') ∧ f_X7_does Z q vb on tw = some (ok, q') ∧ ((r < 0 ∧ ok = 0) ∨ (¬ r < 0 ∧ ok = 1)) ∧ zRT c' q' ∧ ∀ i, 328 ≤ i → q' i = q i := by
  unfold f_X6_obey f_X7_does
  rcases hv with rfl | rfl | rfl | rfl
  · obtain ⟨rfl, rfl⟩ := hs (by decide)
    obtain ⟨e, h1, h2, h3, h4⟩ := zz_borrowR (Z := Z) (by omega) a fi se
    simp only [if_true, h1, h2, zob1]
    rcases h3 with rfl | h3
    · obtain ⟨r, sp', le', ta', pu', house', loans', q', l1, l2, l3, l4, l5⟩ := h4 rfl
      simp only [l1, l2, if_true, zob7, zob2, show ((0 : Int32) < 0) = False by simp, if_false]
      exact ⟨r, _, 1, q', rfl, rfl, Or.inr ⟨l3, rfl⟩, l4, l5⟩
    · have h0 : ¬ e = 0 := fun x => by rw [x] at h3; exact absurd h3 (by decide)
      simp only [h0, h3, if_true, if_false]
      exact ⟨e, c, 0, q, rfl, rfl, Or.inl ⟨h3, rfl⟩, a, fun _ _ => rfl⟩
  · obtain ⟨rfl, rfl⟩ := hs (by decide)
    obtain ⟨e, h1, h2, h3, h4⟩ := zz_bringR (Z := Z) (by omega) a fi se
    simp only [show ((114 : Int32) = 98) = False by simp, show ((114 : Int32) = 104) = False by simp, show ((114 : Int32) = 108) = False by simp, if_true, if_false, h1, h2, zob1]
    rcases h3 with rfl | h3
    · obtain ⟨r, sp', ta', pu', sh', ho', pa', house', q', l1, l2, l3, l4, l5⟩ := h4 rfl
      simp only [l1, l2, if_true, zob8, zob2, show ((0 : Int32) < 0) = False by simp, if_false]
      exact ⟨r, _, 1, q', rfl, rfl, Or.inr ⟨l3, rfl⟩, l4, l5⟩
    · have h0 : ¬ e = 0 := fun x => by rw [x] at h3; exact absurd h3 (by decide)
      simp only [h0, h3, if_true, if_false]
      exact ⟨e, c, 0, q, rfl, rfl, Or.inl ⟨h3, rfl⟩, a, fun _ _ => rfl⟩
  · obtain ⟨rfl, rfl⟩ := hs (by decide)
    obtain ⟨e, h1, h2, h3, h4⟩ := zz_passR (Z := Z) (by omega) a fi se
    simp only [show ((104 : Int32) = 98) = False by simp, show ((104 : Int32) = 114) = False by simp, if_true, if_false, h1, h2, zob1]
    rcases h3 with rfl | h3
    · obtain ⟨r, sp', we', le', ta', pu', sh', hours', house', loans', surges', q', l1, l2, l3, l4, l5⟩ := h4 rfl
      simp only [l1, l2, if_true, zob11, zob2, show ((0 : Int32) < 0) = False by simp, if_false]
      exact ⟨r, _, 1, q', rfl, rfl, Or.inr ⟨l3, rfl⟩, l4, l5⟩
    · have h0 : ¬ e = 0 := fun x => by rw [x] at h3; exact absurd h3 (by decide)
      simp only [h0, h3, if_true, if_false]
      exact ⟨e, c, 0, q, rfl, rfl, Or.inl ⟨h3, rfl⟩, a, fun _ _ => rfl⟩
  · obtain ⟨r, sp', ta', q', l1, l2, l3, l4, l5⟩ := zz_levelR hZ a
    simp only [show ((108 : Int32) = 98) = False by simp, show ((108 : Int32) = 104) = False by simp, show ((108 : Int32) = 114) = False by simp, if_true, if_false, zob1, show ((0 : Int32) < 0) = False by simp, l1, l2, zob3, zob2]
    exact ⟨r, _, 1, q', rfl, rfl, Or.inr ⟨l3, rfl⟩, l4, l5⟩
theorem zCarry {Z : Nat} (hZ : 30000 < Z) {m : Nat} {ch tx : Nat → Int32} (hm : m ≤ 80) (a : zTx m ch tx) : ∀ k i d Fc Fm c p vb0 fi se one two nu, m - i ≤ k → i ≤ m → d ≤ i → k + 2 < Fc → k + 2 < Fm → zRT c p → ∃ d' c' cur vb fi' se' b1 b2 b3 b4 b5 b6 x p1 at_ lt on tw nu' p', f_X6_carryOut_L40 Z ch (nI m) Fc (nI d) c (nI i) vb0 fi se = some (d', c', cur, vb, fi', se') ∧ f_X7_readOrder tx (nI m) (nI i) one two nu = some (b1, b2, b3, b4, b5, b6) ∧ ((b1 = 0 ∧ x = 0 ∧ p1 = p) ∨ (b1 = 1 ∧ f_X7_does Z p b3 b4 b5 = some (x, p1) ∧ (x = 0 ∨ x = 1))) ∧ f_X7_carryOut_L46 Z tx (nI m) Fm (nI d) x b2 b3 b4 b5 b6 p1 = some (d', at_, lt, on, tw, nu', p') ∧ zRT c' p' ∧ ∀ j, 328 ≤ j → p' j = p j := by
  intro k
  induction k with
  | zero =>
    intro i d Fc Fm c p vb0 fi se one two nu hk hi hd hFc hFm ac
    obtain ⟨Fc, rfl⟩ : ∃ G, Fc = G + 1 := ⟨Fc - 1, by omega⟩
    obtain ⟨Fm, rfl⟩ : ∃ G, Fm = G + 1 := ⟨Fm - 1, by omega⟩
    have him : i = m := by omega
    obtain ⟨ok, pos, vb, fi', se', lt, on, tw, nu', g1, g2, g3, g4, g5, g6⟩ := zRd hm a hi fi se one two nu
    have q80 : ¬ (80 : Int32) < nI d := by rw [show (80 : Int32) = nI 80 from rfl]; exact nI_nlt (by omega) (by omega)
    rcases g3 with rfl | rfl
    · refine ⟨nI d, c, nI pos, vb, fi', se', 0, nI pos, lt, on, tw, nu', 0, p, nI pos, lt, on, tw, nu', p, ?_, g2, Or.inl ⟨rfl, rfl, rfl⟩, ?_, ac, fun _ _ => rfl⟩
      · rw [f_X6_carryOut_L40, if_neg q80, g1, zob5, if_pos rfl]
      · rw [f_X7_carryOut_L46, if_pos rfl]
    · have := (g6 rfl).1; omega
  | succ k ih =>
    intro i d Fc Fm c p vb0 fi se one two nu hk hi hd hFc hFm ac
    obtain ⟨Fc, rfl⟩ : ∃ G, Fc = G + 1 := ⟨Fc - 1, by omega⟩
    obtain ⟨Fm, rfl⟩ : ∃ G, Fm = G + 1 + 1 := ⟨Fm - 2, by omega⟩
    obtain ⟨ok, pos, vb, fi', se', lt, on, tw, nu', g1, g2, g3, g4, g5, g6⟩ := zRd hm a hi fi se one two nu
    have q80 : ¬ (80 : Int32) < nI d := by rw [show (80 : Int32) = nI 80 from rfl]; exact nI_nlt (by omega) (by omega)
    rcases g3 with rfl | rfl
    · refine ⟨nI d, c, nI pos, vb, fi', se', 0, nI pos, lt, on, tw, nu', 0, p, nI pos, lt, on, tw, nu', p, ?_, g2, Or.inl ⟨rfl, rfl, rfl⟩, ?_, ac, fun _ _ => rfl⟩
      · rw [f_X6_carryOut_L40, if_neg q80, g1, zob5, if_pos rfl]
      · rw [f_X7_carryOut_L46, if_pos rfl]
    · obtain ⟨hip, hvl, hv4, hsame⟩ := g6 rfl
      subst hvl
      obtain ⟨r, c', okk, p1, o1, o2, o3, o4, o5⟩ := zObey hZ ac (vb := vb) (fi := fi') (se := se') (on := on) (tw := tw) hv4 hsame
      rcases o3 with ⟨hr, rfl⟩ | ⟨hr, rfl⟩
      · refine ⟨nI d, c', nI pos, vb, fi', se', 1, nI pos, vb, on, tw, nu', 0, p1, nI pos, vb, on, tw, nu', p1, ?_, g2, Or.inr ⟨rfl, o2, Or.inl rfl⟩, ?_, o4, o5⟩
        · rw [f_X6_carryOut_L40, if_neg q80, g1, zob5, if_neg (by decide), o1, zob2, if_pos hr]
        · rw [f_X7_carryOut_L46, if_pos rfl]
      · have e59 : (59 : Int32) = nI 59 := rfl
        rcases zAc hm a g5 (k := 59) (by omega) (by omega) with ⟨cc, l1, l2⟩ | ⟨l1, l2⟩
        · obtain ⟨d', c'', cur, vb', fi'', se'', b1, b2, b3, b4, b5, b6, x, p2, at_, lt', on', tw', nu'', p', r1, r2, r3, r4, r5, r6⟩ := ih (pos + 1) (d + 1) Fc (Fm + 1) c' p1 vb fi' se' on tw nu' (by omega) (by omega) (by omega) (by omega) (by omega) o4
          refine ⟨d', c'', cur, vb', fi'', se'', 1, nI pos, vb, on, tw, nu', 1, p1, at_, lt', on', tw', nu'', p', ?_, g2, Or.inr ⟨rfl, o2, Or.inr rfl⟩, ?_, r5, fun j hj => by rw [r6 j hj, o5 j hj]⟩
          · rw [f_X6_carryOut_L40, if_neg q80, g1, zob5, if_neg (by decide), o1, zob2, if_neg hr, e59, l1, zob2, if_neg (by decide), nI_1]; exact r1
          · rw [f_X7_carryOut_L46, if_neg (by decide), e59, l2, zob2, if_neg (by decide), r2, zob6, nI_1]
            rcases r3 with ⟨x1, x2, x3⟩ | ⟨x1, x2, x3⟩
            · subst x1 x2 x3
              rw [if_pos rfl, zob7]; exact r4
            · subst x1
              rw [if_neg (by decide), x2, zob2]
              rcases x3 with rfl | rfl
              · rw [if_pos rfl, zob7]; exact r4
              · rw [if_neg (by decide), zob7]; exact r4
        · refine ⟨nI (d + 1), c', nI pos, vb, fi', se', 1, nI pos, vb, on, tw, nu', 1, p1, nI pos, vb, on, tw, nu', p1, ?_, g2, Or.inr ⟨rfl, o2, Or.inr rfl⟩, ?_, o4, o5⟩
          · rw [f_X6_carryOut_L40, if_neg q80, g1, zob5, if_neg (by decide), o1, zob2, if_neg hr, e59, l1, zob2, if_pos rfl, nI_1]
          · rw [f_X7_carryOut_L46, if_neg (by decide), e59, l2, zob2, if_pos rfl, zob7, nI_1, f_X7_carryOut_L46, if_pos rfl]
theorem zz_carryOut {Z : Nat} (hZ : 30000 < Z) {c s0 s1 : CV} {k0 k1 : Int32} {q : Nat → Int32} {g : Nat → SV} {nx : Nat} {sz : Int32} {sv : Nat → Int32} {st : Int32} {m : Nat} {ch tx : Nat → Int32} (a : zSt c s0 s1 k0 k1 q) (b : zHi g nx sz sv st) (hm : m ≤ 80) (t : zTx m ch tx) (vb fi se one two nu : Int32) : ∃ r c' g' nx' sz' m' cur' vb' fi' se' q' sv' st' at' lt' on' tw' nu', m' ≤ 80 ∧ f_X6_carryOut Z c s0 s1 k0 k1 g nx sz ch (nI m) vb fi se = some (r, c', g', nx', sz', nI m', cur', vb', fi', se') ∧ f_X7_carryOut Z q sv tx st (nI m) one two nu = some (r, q', sv', st', nI m', at', lt', on', tw', nu') ∧ zSt c' s0 s1 k0 k1 q' ∧ zHi g' nx' sz' sv' st' ∧ zTx m' ch tx := by
  obtain ⟨sv', st', l1, l2⟩ := zSave (Z := Z) (by omega) a b
  obtain ⟨flt, pos, vb', fi', se', b1, b2, b3, b4, b5, b6, is, at_, lt, on, tw, nu', f1, f2, f3, f4, f5⟩ := zFault hm t m 0 0 Z Z vb fi se one two nu (by omega) (by omega) (by omega) (by omega) (by omega)
  have f1' : f_X4_fault Z ch (nI m) vb fi se = some (flt, nI pos, vb', fi', se') := f1
  have f2' : f_X7_readOrder tx (nI m) 0 one two nu = some (b1, b2, b3, b4, b5, b6) := f2
  unfold f_X6_carryOut f_X7_carryOut f_X7_faultOf
  rw [f1', f2', zob5, zob6, f3, zob6]
  rcases f5 with ⟨e1, e2, e3⟩ | ⟨e1, e2⟩
  · subst e1 e3
    rw [if_pos rfl, if_neg e2, if_pos rfl, zob6, if_pos (by decide), l1, zob2]
    obtain ⟨d', c', cur, vb2, fi2, se2, b1', b2', b3', b4', b5', b6', x, p1, at2, lt2, on2, tw2, nu2, p', r1, r2, r3, r4, r5, r6⟩ := zCarry hZ hm t at_ 0 0 Z Z c q vb' fi' se' on tw nu' (by omega) (by omega) (by omega) (by omega) (by omega) a.1
    have r1' : f_X6_carryOut_L40 Z ch (nI at_) Z 0 c f_X4_rewind vb' fi' se' = some (d', c', cur, vb2, fi2, se2) := r1
    have r2' : f_X7_readOrder tx (nI at_) 0 on tw nu' = some (b1', b2', b3', b4', b5', b6') := r2
    have r4' : f_X7_carryOut_L46 Z tx (nI at_) Z 0 x b2' b3' b4' b5' b6' p1 = some (d', at2, lt2, on2, tw2, nu2, p') := r4
    have hx : (if b1' = 0 then some (0, q) else ob2 (f_X7_does Z q b3' b4' b5') (fun b162 m163 => if b162 = 0 then some (0, m163) else some (1, m163))) = some (x, p1) := by
      rcases r3 with ⟨x1, x2, x3⟩ | ⟨x1, x2, x3⟩
      · subst x1 x2 x3; rw [if_pos rfl]
      · subst x1
        rw [if_neg (by decide), x2, zob2]
        rcases x3 with rfl | rfl
        · rw [if_pos rfl]
        · rw [if_neg (by decide)]
    rw [r2', zob6, hx, zob2, r4', zob7]
    unfold f_X1_record
    rw [zpl3, r1', zob6]
    exact ⟨_, _, _, _, _, 0, _, _, _, _, _, _, _, _, _, _, _, _, by omega, rfl, rfl, a.core r5 r6, l2, fun i hi => by omega⟩
  · subst e1
    have h9 : ¬ nI at_ = -9 := by rw [zn9 (by omega)]; simp
    rw [if_neg h9]
    have hM : (if is = 0 then some (nI at_, nI at_, lt, on, tw, nu') else if nI at_ = nI m then some (-1, nI at_, lt, on, tw, nu') else some (nI at_, nI at_, lt, on, tw, nu')) = some (nI at_, nI at_, lt, on, tw, nu') := by
      have qe : (nI at_ = nI m) = (at_ = m) := zeq (by omega) (by omega)
      rcases e2 with e2 | e2
      · rw [if_pos e2]
      · by_cases x : is = 0
        · rw [if_pos x]
        · rw [if_neg x, if_neg (by rw [qe]; exact e2)]
    rw [hM, zob6, if_neg (nI_pos (by omega))]
    exact ⟨_, _, _, _, _, m, _, _, _, _, _, _, _, _, _, _, _, _, hm, rfl, rfl, a, b, t⟩
