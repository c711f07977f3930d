def b01 (x : Option (Int32 × OV)) : Option (Int32 × OV) := x.bind (fun q => if q.1 = 0 ∨ q.1 = 1 then some q else none)
theorem b01_ex {x : Option (Int32 × OV)} {r : Int32} {v : OV} (h : b01 x = some (r, v)) : x = some (r, v) ∧ (r = 0 ∨ r = 1) := by
  cases x with
  | none => exact none_some h
  | some q =>
    have h2 : (if q.1 = 0 ∨ q.1 = 1 then some q else none) = some (r, v) := h
    by_cases hq : q.1 = 0 ∨ q.1 = 1
    · rw [if_pos hq] at h2
      cases h2
      exact ⟨rfl, hq⟩
    · rw [if_neg hq] at h2
      exact none_some h2
def b01p (x : Option Int32) : Option Int32 := x.bind (fun q => if q = 0 ∨ q = 1 then some q else none)
theorem b01p_ex {x : Option Int32} {r : Int32} (h : b01p x = some r) : x = some r ∧ (r = 0 ∨ r = 1) := by
  cases x with
  | none => exact none_some h
  | some q =>
    have h2 : (if q = 0 ∨ q = 1 then some q else none) = some r := h
    by_cases hq : q = 0 ∨ q = 1
    · rw [if_pos hq] at h2
      cases h2
      exact ⟨rfl, hq⟩
    · rw [if_neg hq] at h2
      exact none_some h2
noncomputable def f_L_places_L480 (Z : Nat) (v : OV) (b1 : Int32) (v2_657 : Int32) (v3_658 : Int32) (w660 : Nat → Int32) : Nat → Int32 → Option (Int32)
  | 0, _ => none
  | F + 1, v6_791 => (if v6_791 < 5 then (ob1 (m_count Z v (2 + v6_791)) (fun (b799 : Int32) => ob1 (aget 5 w660 v6_791) (fun (a800 : Int32) => (if b799 = a800 then (f_L_places_L480 Z v b1 v2_657 v3_658 w660 F (v6_791 + 1)) else (some (0)))))) else (ob1 (m_count Z v 7) (fun (b793 : Int32) => (if b793 = v2_657 then (ob1 (m_count Z v 12) (fun (b795 : Int32) => (if b795 = v3_658 then (ob1 (m_umbrella v b1 0) (fun (b797 : Int32) => (if b797 = (-1) then (some (1)) else (some (0))))) else (some (0))))) else (some (0))))))
noncomputable def f_L_places_L315 (Z : Nat) (v : OV) (b1 : Int32) (v2_657 : Int32) (v3_658 : Int32) (w660 : Nat → Int32) (w661 : Nat → Int32) : Nat → Int32 → Option (Int32)
  | 0, _ => none
  | F + 1, v6_774 => (if v6_774 < 8 then (ob1 (m_stand Z v v6_774 3) (fun (b802 : Int32) => (ob1 (m_stand Z v v6_774 1) (fun (b803 : Int32) => ob1 (aget 8 w661 v6_774) (fun (a804 : Int32) => (if b803 = a804 then ob1 (aget 8 w661 v6_774) (fun (a806 : Int32) => (ob1 (m_stand Z v v6_774 0) (fun (b807 : Int32) => (if b807 < a806 then (some (0)) else (pl1 (if b802 = (-9) then 1 else 0) (fun (x810 : Int32) => (ob1 (m_stand Z v v6_774 2) (fun (b812 : Int32) => ob1 (aget 8 w661 v6_774) (fun (a813 : Int32) => (pl1 (if b812 = a813 then 1 else 0) (fun (x815 : Int32) => (if x810 = x815 then (if b802 = (-9) then (ob1 (m_stand Z v v6_774 4) (fun (b819 : Int32) => (pl1 (if b819 = (-9) then 1 else 0) (fun (x821 : Int32) => ob1 (aget 8 w661 v6_774) (fun (a823 : Int32) => (pl1 (if a823 = 0 then 1 else 0) (fun (x825 : Int32) => (if x821 = x825 then (f_L_places_L315 Z v b1 v2_657 v3_658 w660 w661 F (v6_774 + 1)) else (some (0)))))))))) else (ob1 (m_umbrella v b802 3) (fun (b828 : Int32) => (if b828 = 1 then (some (0)) else (ob1 (m_umbrella v b802 0) (fun (b830 : Int32) => (if b830 = 0 then (ob1 (m_umbrella v b802 1) (fun (b832 : Int32) => (if b832 = v6_774 then (ob1 (m_stand Z v v6_774 4) (fun (b834 : Int32) => (pl1 (if b834 = (-9) then 1 else 0) (fun (x836 : Int32) => ob1 (aget 8 w661 v6_774) (fun (a838 : Int32) => (pl1 (if a838 = 0 then 1 else 0) (fun (x840 : Int32) => (if x836 = x840 then (f_L_places_L315 Z v b1 v2_657 v3_658 w660 w661 F (v6_774 + 1)) else (some (0)))))))))) else (some (0))))) else (some (0))))))))) else (some (0)))))))))))))) else (some (0)))))))) else (f_L_places_L480 Z v b1 v2_657 v3_658 w660 Z 0))
noncomputable def f_L_places_L24 (Z : Nat) (v : OV) (b1 : Int32) : Nat → Int32 → Int32 → Int32 → (Nat → Int32) → (Nat → Int32) → Option (Int32)
  | 0, _, _, _, _, _ => none
  | F + 1, v2_657, v3_658, v6_659, w660, w661 => (if v6_659 < b1 then (ob1 (m_umbrella v v6_659 0) (fun (b843 : Int32) => (ob1 (m_umbrella v v6_659 1) (fun (b844 : Int32) => (ob1 (m_umbrella v v6_659 2) (fun (b845 : Int32) => ob1 (aget 5 w660 b843) (fun (a846 : Int32) => ob1 (aset 5 w660 b843 (a846 + 1)) (fun (m847 : Nat → Int32) => (ob1 (m_umbrella v v6_659 4) (fun (b848 : Int32) => (ob1 (if b843 < 4 then (ob1 (m_umbrella v v6_659 3) (fun (b985 : Int32) => (some b985))) else (some 0)) (fun (x851 : Int32) => (if b845 < 0 then (some (0)) else (if 64 < b845 then (some (0)) else (ob1 (m_umbrella v v6_659 3) (fun (b855 : Int32) => (pl1 (if b855 = 1 then 1 else 0) (fun (x857 : Int32) => (pl1 (if 31 < b845 then 1 else 0) (fun (x860 : Int32) => (if x857 = x860 then (pl1 (if b844 = (-9) then 1 else 0) (fun (x864 : Int32) => (pl1 (if 2 < b843 then 1 else 0) (fun (x867 : Int32) => (if x864 = x867 then (if b843 = 1 then (ob1 (m_person Z v b844 1) (fun (b927 : Int32) => (if b927 = v6_659 then (if b843 = 3 then (if b845 < 32 then (some (0)) else (if b843 = 0 then ob1 (aget 8 w661 b844) (fun (a959 : Int32) => ob1 (aset 8 w661 b844 (a959 + 1)) (fun (m960 : Nat → Int32) => (ob1 (m_stand Z v b844 3) (fun (b961 : Int32) => (ob1 (m_stand Z v b844 4) (fun (b962 : Int32) => (if b845 < 32 then (if b961 < 0 then (some (0)) else (ob1 (m_umbrella v b961 2) (fun (b970 : Int32) => (if b845 < b970 then (some (0)) else (ob1 (m_umbrella v b961 2) (fun (b972 : Int32) => (if b972 = b845 then (if v6_659 < b961 then (some (0)) else (ob1 (m_umbrella v b962 2) (fun (b980 : Int32) => (if b980 < b845 then (some (0)) else (ob1 (m_umbrella v b962 2) (fun (b982 : Int32) => (if b982 = b845 then (if v6_659 < b962 then (some (0)) else (f_L_places_L24 Z v b1 F (v2_657 + x851) (v3_658 + b848) (v6_659 + 1) m847 m960)) else (f_L_places_L24 Z v b1 F (v2_657 + x851) (v3_658 + b848) (v6_659 + 1) m847 m960)))))))) else (ob1 (m_umbrella v b962 2) (fun (b974 : Int32) => (if b974 < b845 then (some (0)) else (ob1 (m_umbrella v b962 2) (fun (b976 : Int32) => (if b976 = b845 then (if v6_659 < b962 then (some (0)) else (f_L_places_L24 Z v b1 F (v2_657 + x851) (v3_658 + b848) (v6_659 + 1) m847 m960)) else (f_L_places_L24 Z v b1 F (v2_657 + x851) (v3_658 + b848) (v6_659 + 1) m847 m960)))))))))))))) else (ob1 (m_umbrella v b962 2) (fun (b964 : Int32) => (if b964 < b845 then (some (0)) else (ob1 (m_umbrella v b962 2) (fun (b966 : Int32) => (if b966 = b845 then (if v6_659 < b962 then (some (0)) else (f_L_places_L24 Z v b1 F (v2_657 + x851) (v3_658 + b848) (v6_659 + 1) m847 m960)) else (f_L_places_L24 Z v b1 F (v2_657 + x851) (v3_658 + b848) (v6_659 + 1) m847 m960)))))))))))))) else (f_L_places_L24 Z v b1 F (v2_657 + x851) (v3_658 + b848) (v6_659 + 1) m847 w661))) else (if b843 = 0 then ob1 (aget 8 w661 b844) (fun (a931 : Int32) => ob1 (aset 8 w661 b844 (a931 + 1)) (fun (m932 : Nat → Int32) => (ob1 (m_stand Z v b844 3) (fun (b933 : Int32) => (ob1 (m_stand Z v b844 4) (fun (b934 : Int32) => (if b845 < 32 then (if b933 < 0 then (some (0)) else (ob1 (m_umbrella v b933 2) (fun (b942 : Int32) => (if b845 < b942 then (some (0)) else (ob1 (m_umbrella v b933 2) (fun (b944 : Int32) => (if b944 = b845 then (if v6_659 < b933 then (some (0)) else (ob1 (m_umbrella v b934 2) (fun (b952 : Int32) => (if b952 < b845 then (some (0)) else (ob1 (m_umbrella v b934 2) (fun (b954 : Int32) => (if b954 = b845 then (if v6_659 < b934 then (some (0)) else (f_L_places_L24 Z v b1 F (v2_657 + x851) (v3_658 + b848) (v6_659 + 1) m847 m932)) else (f_L_places_L24 Z v b1 F (v2_657 + x851) (v3_658 + b848) (v6_659 + 1) m847 m932)))))))) else (ob1 (m_umbrella v b934 2) (fun (b946 : Int32) => (if b946 < b845 then (some (0)) else (ob1 (m_umbrella v b934 2) (fun (b948 : Int32) => (if b948 = b845 then (if v6_659 < b934 then (some (0)) else (f_L_places_L24 Z v b1 F (v2_657 + x851) (v3_658 + b848) (v6_659 + 1) m847 m932)) else (f_L_places_L24 Z v b1 F (v2_657 + x851) (v3_658 + b848) (v6_659 + 1) m847 m932)))))))))))))) else (ob1 (m_umbrella v b934 2) (fun (b936 : Int32) => (if b936 < b845 then (some (0)) else (ob1 (m_umbrella v b934 2) (fun (b938 : Int32) => (if b938 = b845 then (if v6_659 < b934 then (some (0)) else (f_L_places_L24 Z v b1 F (v2_657 + x851) (v3_658 + b848) (v6_659 + 1) m847 m932)) else (f_L_places_L24 Z v b1 F (v2_657 + x851) (v3_658 + b848) (v6_659 + 1) m847 m932)))))))))))))) else (f_L_places_L24 Z v b1 F (v2_657 + x851) (v3_658 + b848) (v6_659 + 1) m847 w661))) else (some (0))))) else (if b843 = 3 then (if b845 < 32 then (some (0)) else (if b843 = 0 then ob1 (aget 8 w661 b844) (fun (a901 : Int32) => ob1 (aset 8 w661 b844 (a901 + 1)) (fun (m902 : Nat → Int32) => (ob1 (m_stand Z v b844 3) (fun (b903 : Int32) => (ob1 (m_stand Z v b844 4) (fun (b904 : Int32) => (if b845 < 32 then (if b903 < 0 then (some (0)) else (ob1 (m_umbrella v b903 2) (fun (b912 : Int32) => (if b845 < b912 then (some (0)) else (ob1 (m_umbrella v b903 2) (fun (b914 : Int32) => (if b914 = b845 then (if v6_659 < b903 then (some (0)) else (ob1 (m_umbrella v b904 2) (fun (b922 : Int32) => (if b922 < b845 then (some (0)) else (ob1 (m_umbrella v b904 2) (fun (b924 : Int32) => (if b924 = b845 then (if v6_659 < b904 then (some (0)) else (f_L_places_L24 Z v b1 F (v2_657 + x851) (v3_658 + b848) (v6_659 + 1) m847 m902)) else (f_L_places_L24 Z v b1 F (v2_657 + x851) (v3_658 + b848) (v6_659 + 1) m847 m902)))))))) else (ob1 (m_umbrella v b904 2) (fun (b916 : Int32) => (if b916 < b845 then (some (0)) else (ob1 (m_umbrella v b904 2) (fun (b918 : Int32) => (if b918 = b845 then (if v6_659 < b904 then (some (0)) else (f_L_places_L24 Z v b1 F (v2_657 + x851) (v3_658 + b848) (v6_659 + 1) m847 m902)) else (f_L_places_L24 Z v b1 F (v2_657 + x851) (v3_658 + b848) (v6_659 + 1) m847 m902)))))))))))))) else (ob1 (m_umbrella v b904 2) (fun (b906 : Int32) => (if b906 < b845 then (some (0)) else (ob1 (m_umbrella v b904 2) (fun (b908 : Int32) => (if b908 = b845 then (if v6_659 < b904 then (some (0)) else (f_L_places_L24 Z v b1 F (v2_657 + x851) (v3_658 + b848) (v6_659 + 1) m847 m902)) else (f_L_places_L24 Z v b1 F (v2_657 + x851) (v3_658 + b848) (v6_659 + 1) m847 m902)))))))))))))) else (f_L_places_L24 Z v b1 F (v2_657 + x851) (v3_658 + b848) (v6_659 + 1) m847 w661))) else (if b843 = 0 then ob1 (aget 8 w661 b844) (fun (a873 : Int32) => ob1 (aset 8 w661 b844 (a873 + 1)) (fun (m874 : Nat → Int32) => (ob1 (m_stand Z v b844 3) (fun (b875 : Int32) => (ob1 (m_stand Z v b844 4) (fun (b876 : Int32) => (if b845 < 32 then (if b875 < 0 then (some (0)) else (ob1 (m_umbrella v b875 2) (fun (b884 : Int32) => (if b845 < b884 then (some (0)) else (ob1 (m_umbrella v b875 2) (fun (b886 : Int32) => (if b886 = b845 then (if v6_659 < b875 then (some (0)) else (ob1 (m_umbrella v b876 2) (fun (b894 : Int32) => (if b894 < b845 then (some (0)) else (ob1 (m_umbrella v b876 2) (fun (b896 : Int32) => (if b896 = b845 then (if v6_659 < b876 then (some (0)) else (f_L_places_L24 Z v b1 F (v2_657 + x851) (v3_658 + b848) (v6_659 + 1) m847 m874)) else (f_L_places_L24 Z v b1 F (v2_657 + x851) (v3_658 + b848) (v6_659 + 1) m847 m874)))))))) else (ob1 (m_umbrella v b876 2) (fun (b888 : Int32) => (if b888 < b845 then (some (0)) else (ob1 (m_umbrella v b876 2) (fun (b890 : Int32) => (if b890 = b845 then (if v6_659 < b876 then (some (0)) else (f_L_places_L24 Z v b1 F (v2_657 + x851) (v3_658 + b848) (v6_659 + 1) m847 m874)) else (f_L_places_L24 Z v b1 F (v2_657 + x851) (v3_658 + b848) (v6_659 + 1) m847 m874)))))))))))))) else (ob1 (m_umbrella v b876 2) (fun (b878 : Int32) => (if b878 < b845 then (some (0)) else (ob1 (m_umbrella v b876 2) (fun (b880 : Int32) => (if b880 = b845 then (if v6_659 < b876 then (some (0)) else (f_L_places_L24 Z v b1 F (v2_657 + x851) (v3_658 + b848) (v6_659 + 1) m847 m874)) else (f_L_places_L24 Z v b1 F (v2_657 + x851) (v3_658 + b848) (v6_659 + 1) m847 m874)))))))))))))) else (f_L_places_L24 Z v b1 F (v2_657 + x851) (v3_658 + b848) (v6_659 + 1) m847 w661)))) else (some (0))))))) else (some (0))))))))))))))))))))))) else (f_L_places_L315 Z v b1 v2_657 v3_658 w660 w661 Z 0))
noncomputable def f_L_places (Z : Nat) (v : OV) : Option (Int32) :=
  (ob1 (m_count Z v 1) (fun (b1 : Int32) => (f_L_places_L24 Z v b1 Z 0 0 0 (fun _ => 0) (fun _ => 0))))
abbrev rm_L_places : Room := { frames := 4, cells := 2, slots := 13, locals := 91 }
set_option maxHeartbeats 8000000 in
set_option maxRecDepth 100000 in
theorem c_L_places (l : Launch) (D : va_G) (cI cC cR : ClassId) (h0 h1 t0 t1 : Nat) (a b d ah : Nat → Nat) (v : OV) (Z : Nat) (r : Int32) (hF : f_L_places Z v = some r) : MEn l yL_places cL_places 12 (some .boolean) rm_L_places D (TY cI cC cR) [.ref h0] (bO cI cC cR h0 h1 t0 t1 a b d ah v) (bO cI cC cR h0 h1 t0 t1 a b d ah v) (some (.int r)) 2 13 := by
  refine me_en pn_L (Nat.le_of_ble_eq_true rfl) rfl (fun Γ X E hret => ?_)
  refine kb_one ?_
  unfold f_L_places at hF
  refine kw_aload_n X dL_places_0 rfl 0 rfl ?_
  refine kw_iconst X dL_places_1 ci_1 ?_
  obtain ⟨b1, hx1, hF⟩ := ob1_ex hF
  refine kb_ap X (r := .int b1) (As := [.int 1]) (st := []) (cm_count l D cI cC cR h0 h1 t0 t1 a b d ah v 1 Z b1 hx1) vl_L_9 yv_X6_count ⟨Nat.le_of_ble_eq_true rfl, Nat.le_of_ble_eq_true rfl⟩ ⟨rfl, rfl⟩ ⟨Nat.le_of_ble_eq_true rfl, Nat.le_of_ble_eq_true rfl⟩ 0 0 rfl bO_0 rfl rfl rfl (Nat.le_of_ble_eq_true rfl) dL_places_2 ?_
  refine kw_istore_n (lo' := [(0, .ref h0), (1, .int b1)]) X dL_places_5 rfl (by decide) [1, 0] rfl ?_
  refine kw_iconst X dL_places_6 ci_0 ?_
  refine kw_istore_n (lo' := [(0, .ref h0), (1, .int b1), (2, .int 0)]) X dL_places_7 rfl (by decide) [1, 2, 0] rfl ?_
  refine kw_iconst X dL_places_8 ci_0 ?_
  refine kw_istore_n (lo' := [(0, .ref h0), (1, .int b1), (2, .int 0), (3, .int 0)]) X dL_places_9 rfl (by decide) [1, 2, 3, 0] rfl ?_
  refine kw_iconst X dL_places_10 ci_5 ?_
  refine kb_newa (atype := .int) (N := 5) X E gw_64 rfl (t0 := 0) rfl (fun C h => by cases h) rfl (by decide) (by decide) (Nat.le_of_ble_eq_true rfl) ⟨Nat.le_of_ble_eq_true rfl, Nat.le_of_ble_eq_true rfl⟩ dL_places_11 (fun q2 => ?_)
  refine kw_weq (ws' := wj [bO cI cC cR h0 h1 t0 t1 a b d ah v, [(q2, .inl (cI, 5, .inl (fun _ => 0)))]]) rfl ?_
  refine kw_astore (lo' := [(0, .ref h0), (1, .int b1), (2, .int 0), (3, .int 0), (4, .ref q2)]) X dL_places_13 (by decide) [1, 2, 3, 4, 0] rfl ?_
  refine kw_bipush X dL_places_15 cb_8 ?_
  refine kb_newa (atype := .int) (N := 8) X E gw_64 rfl (t0 := 0) rfl (fun C h => by cases h) rfl (by decide) (by decide) (Nat.le_of_ble_eq_true rfl) ⟨Nat.le_of_ble_eq_true rfl, Nat.le_of_ble_eq_true rfl⟩ dL_places_17 (fun q3 => ?_)
  refine kw_weq (ws' := wj [bO cI cC cR h0 h1 t0 t1 a b d ah v, [(q2, .inl (cI, 5, .inl (fun _ => 0)))], [(q3, .inl (cI, 8, .inl (fun _ => 0)))]]) rfl ?_
  refine kw_astore (lo' := [(0, .ref h0), (1, .int b1), (2, .int 0), (3, .int 0), (4, .ref q2), (5, .ref q3)]) X dL_places_19 (by decide) [1, 2, 3, 4, 5, 0] rfl ?_
  refine kw_iconst X dL_places_21 ci_0 ?_
  refine kw_istore (lo' := [(0, .ref h0), (1, .int b1), (2, .int 0), (3, .int 0), (4, .ref q2), (5, .ref q3), (6, .int 0)]) X dL_places_22 (by decide) [1, 2, 3, 4, 5, 6, 0] rfl ?_
  have hL24 : ∀ (F : Nat) (v2_657 : Int32) (v3_658 : Int32) (v6_659 : Int32) (w660 : Nat → Int32) (w661 : Nat → Int32), f_L_places_L24 Z v b1 F v2_657 v3_658 v6_659 w660 w661 = some r → KW Γ 2 13 (wj [bO cI cC cR h0 h1 t0 t1 a b d ah v, [(q2, .inl (cI, 5, .inl w660))], [(q3, .inl (cI, 8, .inl w661))]]) [(0, .ref h0), (1, .int b1), (2, .int v2_657), (3, .int v3_658), (4, .ref q2), (5, .ref q3), (6, .int v6_659)] 24 [] := by
    intro F
    induction F with
    | zero => intro v2_657 v3_658 v6_659 w660 w661 hF; exact none_some hF
    | succ F ih24 =>
      intro v2_657 v3_658 v6_659 w660 w661 hF
      rw [f_L_places_L24] at hF
      refine kw_iload X dL_places_24 6 rfl ?_
      refine kw_iload_n X dL_places_26 rfl 1 rfl ?_
      refine kw_icmp_ge X 312 dL_places_27 (by decide) (fun q662 => ?_) (fun q662 => ?_)
      · replace hF := (if_neg q662).symm.trans hF
        refine kw_iconst X dL_places_312 ci_0 ?_
        refine kw_istore (lo' := [(0, .ref h0), (1, .int b1), (2, .int v2_657), (3, .int v3_658), (4, .ref q2), (5, .ref q3), (6, .int 0)]) X dL_places_313 (by decide) [1, 2, 3, 4, 5, 6, 0] rfl ?_
        have hL315 : ∀ (F : Nat) (v6_774 : Int32), f_L_places_L315 Z v b1 v2_657 v3_658 w660 w661 F v6_774 = some r → KW Γ 2 13 (wj [bO cI cC cR h0 h1 t0 t1 a b d ah v, [(q2, .inl (cI, 5, .inl w660))], [(q3, .inl (cI, 8, .inl w661))]]) [(0, .ref h0), (1, .int b1), (2, .int v2_657), (3, .int v3_658), (4, .ref q2), (5, .ref q3), (6, .int v6_774)] 315 [] := by
          intro F
          induction F with
          | zero => intro v6_774 hF; exact none_some hF
          | succ F ih315 =>
            intro v6_774 hF
            rw [f_L_places_L315] at hF
            refine kw_iload X dL_places_315 6 rfl ?_
            refine kw_bipush X dL_places_317 cb_8 ?_
            refine kw_icmp_ge X 477 dL_places_319 (by decide) (fun q775 => ?_) (fun q775 => ?_)
            · replace hF := (if_neg q775).symm.trans hF
              refine kw_iconst X dL_places_477 ci_0 ?_
              refine kw_istore (lo' := [(0, .ref h0), (1, .int b1), (2, .int v2_657), (3, .int v3_658), (4, .ref q2), (5, .ref q3), (6, .int 0)]) X dL_places_478 (by decide) [1, 2, 3, 4, 5, 6, 0] rfl ?_
              refine kw_loc (lo' := [(0, .ref h0), (1, .int b1), (2, .int v2_657), (3, .int v3_658), (4, .ref q2), (6, .int 0)]) [0, 1, 2, 3, 4, 6] rfl ?_
              have hL480 : ∀ (F : Nat) (v6_791 : Int32), f_L_places_L480 Z v b1 v2_657 v3_658 w660 F v6_791 = some r → KW Γ 2 13 (wj [bO cI cC cR h0 h1 t0 t1 a b d ah v, [(q2, .inl (cI, 5, .inl w660))], [(q3, .inl (cI, 8, .inl w661))]]) [(0, .ref h0), (1, .int b1), (2, .int v2_657), (3, .int v3_658), (4, .ref q2), (6, .int v6_791)] 480 [] := by
                intro F
                induction F with
                | zero => intro v6_791 hF; exact none_some hF
                | succ F ih480 =>
                  intro v6_791 hF
                  rw [f_L_places_L480] at hF
                  refine kw_iload X dL_places_480 5 rfl ?_
                  refine kw_iconst X dL_places_482 ci_5 ?_
                  refine kw_icmp_ge X 510 dL_places_483 (by decide) (fun q792 => ?_) (fun q792 => ?_)
                  · replace hF := (if_neg q792).symm.trans hF
                    refine kw_aload_n X dL_places_510 rfl 0 rfl ?_
                    refine kw_bipush X dL_places_511 cb_7 ?_
                    obtain ⟨b793, hx793, hF⟩ := ob1_ex hF
                    refine kb_ap X (r := .int b793) (As := [.int 7]) (st := []) (cm_count l D cI cC cR h0 h1 t0 t1 a b d ah v 7 Z b793 hx793) vl_L_9 yv_X6_count ⟨Nat.le_of_ble_eq_true rfl, Nat.le_of_ble_eq_true rfl⟩ ⟨rfl, rfl⟩ ⟨Nat.le_of_ble_eq_true rfl, Nat.le_of_ble_eq_true rfl⟩ 0 0 rfl bO_0 rfl rfl rfl (Nat.le_of_ble_eq_true rfl) dL_places_513 ?_
                    refine kw_iload_n X dL_places_516 rfl 2 rfl ?_
                    refine kw_icmp_ne X 544 dL_places_517 (by decide) (fun q794 => ?_) (fun q794 => ?_)
                    · replace hF := (if_neg q794).symm.trans hF
                      refine kw_iconst X dL_places_544 ci_0 ?_
                      obtain rfl := si1 hF
                      refine kb_first ?_
                      exact hret _ _ rfl dL_places_545
                    · replace hF := (if_pos q794).symm.trans hF
                      refine kw_aload_n X dL_places_520 rfl 0 rfl ?_
                      refine kw_bipush X dL_places_521 cb_12 ?_
                      obtain ⟨b795, hx795, hF⟩ := ob1_ex hF
                      refine kb_ap X (r := .int b795) (As := [.int 12]) (st := []) (cm_count l D cI cC cR h0 h1 t0 t1 a b d ah v 12 Z b795 hx795) vl_L_9 yv_X6_count ⟨Nat.le_of_ble_eq_true rfl, Nat.le_of_ble_eq_true rfl⟩ ⟨rfl, rfl⟩ ⟨Nat.le_of_ble_eq_true rfl, Nat.le_of_ble_eq_true rfl⟩ 0 0 rfl bO_0 rfl rfl rfl (Nat.le_of_ble_eq_true rfl) dL_places_523 ?_
                      refine kw_iload_n X dL_places_526 rfl 3 rfl ?_
                      refine kw_icmp_ne X 544 dL_places_527 (by decide) (fun q796 => ?_) (fun q796 => ?_)
                      · replace hF := (if_neg q796).symm.trans hF
                        refine kw_iconst X dL_places_544 ci_0 ?_
                        obtain rfl := si1 hF
                        refine kb_first ?_
                        exact hret _ _ rfl dL_places_545
                      · replace hF := (if_pos q796).symm.trans hF
                        refine kw_aload_n X dL_places_530 rfl 0 rfl ?_
                        refine kw_iload_n X dL_places_531 rfl 1 rfl ?_
                        refine kw_iconst X dL_places_532 ci_0 ?_
                        obtain ⟨b797, hx797, hF⟩ := ob1_ex hF
                        refine kb_ap X (r := .int b797) (As := [.int b1, .int 0]) (st := []) (cm_umbrella l D cI cC cR h0 h1 t0 t1 a b d ah v b1 0 b797 hx797) vl_L_15 yv_X6_umbrella ⟨Nat.le_of_ble_eq_true rfl, Nat.le_of_ble_eq_true rfl⟩ ⟨rfl, rfl⟩ ⟨Nat.le_of_ble_eq_true rfl, Nat.le_of_ble_eq_true rfl⟩ 0 0 rfl bO_0 rfl rfl rfl (Nat.le_of_ble_eq_true rfl) dL_places_533 ?_
                        refine kw_iconst X dL_places_536 ci_m1 ?_
                        refine kw_icmp_ne X 544 dL_places_537 (by decide) (fun q798 => ?_) (fun q798 => ?_)
                        · replace hF := (if_neg q798).symm.trans hF
                          refine kw_iconst X dL_places_544 ci_0 ?_
                          obtain rfl := si1 hF
                          refine kb_first ?_
                          exact hret _ _ rfl dL_places_545
                        · replace hF := (if_pos q798).symm.trans hF
                          refine kw_iconst X dL_places_540 ci_1 ?_
                          refine kw_goto X 545 dL_places_541 (by decide) ?_
                          obtain rfl := si1 hF
                          refine kb_first ?_
                          exact hret _ _ rfl dL_places_545
                  · replace hF := (if_pos q792).symm.trans hF
                    refine kw_aload_n X dL_places_486 rfl 0 rfl ?_
                    refine kw_iconst X dL_places_487 ci_2 ?_
                    refine kw_iload X dL_places_488 5 rfl ?_
                    refine kw_iadd X dL_places_490 ?_
                    obtain ⟨b799, hx799, hF⟩ := ob1_ex hF
                    refine kb_ap X (r := .int b799) (As := [.int (2 + v6_791)]) (st := []) (cm_count l D cI cC cR h0 h1 t0 t1 a b d ah v (2 + v6_791) Z b799 hx799) vl_L_9 yv_X6_count ⟨Nat.le_of_ble_eq_true rfl, Nat.le_of_ble_eq_true rfl⟩ ⟨rfl, rfl⟩ ⟨Nat.le_of_ble_eq_true rfl, Nat.le_of_ble_eq_true rfl⟩ 0 0 rfl bO_0 rfl rfl rfl (Nat.le_of_ble_eq_true rfl) dL_places_491 ?_
                    refine kw_aload X dL_places_494 4 rfl ?_
                    refine kw_iload X dL_places_496 5 rfl ?_
                    obtain ⟨a800, hx, hF⟩ := ob1_ex hF
                    obtain ⟨hin, hx⟩ := aget_ex hx
                    refine kb_iald X 1 0 0 rfl rfl rfl hin hx dL_places_498 ?_
                    refine kw_icmp_eq X 504 dL_places_499 (by decide) (fun q801 => ?_) (fun q801 => ?_)
                    · replace hF := (if_pos q801).symm.trans hF
                      refine kw_iinc (lo' := [(0, .ref h0), (1, .int b1), (2, .int v2_657), (3, .int v3_658), (4, .ref q2), (6, .int (v6_791 + 1))]) X dL_places_504 5 rfl (congrArg (fun w => v6_791 + w) ci_1) (by decide) [1, 2, 3, 4, 5, 0] rfl ?_
                      refine kw_goto X 480 dL_places_507 (by decide) ?_
                      exact ih480 _ hF
                    · replace hF := (if_neg q801).symm.trans hF
                      refine kw_iconst X dL_places_502 ci_0 ?_
                      obtain rfl := si1 hF
                      refine kb_first ?_
                      exact hret _ _ rfl dL_places_503
              exact hL480 Z _ hF
            · replace hF := (if_pos q775).symm.trans hF
              refine kw_aload_n X dL_places_322 rfl 0 rfl ?_
              refine kw_iload X dL_places_323 6 rfl ?_
              refine kw_iconst X dL_places_325 ci_3 ?_
              obtain ⟨b802, hx802, hF⟩ := ob1_ex hF
              refine kb_ap X (r := .int b802) (As := [.int v6_774, .int 3]) (st := []) (cm_stand l D cI cC cR h0 h1 t0 t1 a b d ah v v6_774 3 Z b802 hx802) vl_L_24 yv_X6_stand ⟨Nat.le_of_ble_eq_true rfl, Nat.le_of_ble_eq_true rfl⟩ ⟨rfl, rfl⟩ ⟨Nat.le_of_ble_eq_true rfl, Nat.le_of_ble_eq_true rfl⟩ 0 0 rfl bO_0 rfl rfl rfl (Nat.le_of_ble_eq_true rfl) dL_places_326 ?_
              refine kw_istore (lo' := [(0, .ref h0), (1, .int b1), (2, .int v2_657), (3, .int v3_658), (4, .ref q2), (5, .ref q3), (6, .int v6_774), (7, .int b802)]) X dL_places_329 (by decide) [1, 2, 3, 4, 5, 6, 7, 0] rfl ?_
              refine kw_aload_n X dL_places_331 rfl 0 rfl ?_
              refine kw_iload X dL_places_332 6 rfl ?_
              refine kw_iconst X dL_places_334 ci_1 ?_
              obtain ⟨b803, hx803, hF⟩ := ob1_ex hF
              refine kb_ap X (r := .int b803) (As := [.int v6_774, .int 1]) (st := []) (cm_stand l D cI cC cR h0 h1 t0 t1 a b d ah v v6_774 1 Z b803 hx803) vl_L_24 yv_X6_stand ⟨Nat.le_of_ble_eq_true rfl, Nat.le_of_ble_eq_true rfl⟩ ⟨rfl, rfl⟩ ⟨Nat.le_of_ble_eq_true rfl, Nat.le_of_ble_eq_true rfl⟩ 0 0 rfl bO_0 rfl rfl rfl (Nat.le_of_ble_eq_true rfl) dL_places_335 ?_
              refine kw_aload X dL_places_338 5 rfl ?_
              refine kw_iload X dL_places_340 6 rfl ?_
              obtain ⟨a804, hx, hF⟩ := ob1_ex hF
              obtain ⟨hin, hx⟩ := aget_ex hx
              refine kb_iald X 2 0 0 rfl rfl rfl hin hx dL_places_342 ?_
              refine kw_icmp_ne X 469 dL_places_343 (by decide) (fun q805 => ?_) (fun q805 => ?_)
              · replace hF := (if_neg q805).symm.trans hF
                refine kw_iconst X dL_places_469 ci_0 ?_
                obtain rfl := si1 hF
                refine kb_first ?_
                exact hret _ _ rfl dL_places_470
              · replace hF := (if_pos q805).symm.trans hF
                refine kw_aload X dL_places_346 5 rfl ?_
                refine kw_iload X dL_places_348 6 rfl ?_
                obtain ⟨a806, hx, hF⟩ := ob1_ex hF
                obtain ⟨hin, hx⟩ := aget_ex hx
                refine kb_iald X 2 0 0 rfl rfl rfl hin hx dL_places_350 ?_
                refine kw_aload_n X dL_places_351 rfl 0 rfl ?_
                refine kw_iload X dL_places_352 6 rfl ?_
                refine kw_iconst X dL_places_354 ci_0 ?_
                obtain ⟨b807, hx807, hF⟩ := ob1_ex hF
                refine kb_ap X (r := .int b807) (As := [.int v6_774, .int 0]) (st := [.int a806]) (cm_stand l D cI cC cR h0 h1 t0 t1 a b d ah v v6_774 0 Z b807 hx807) vl_L_24 yv_X6_stand ⟨Nat.le_of_ble_eq_true rfl, Nat.le_of_ble_eq_true rfl⟩ ⟨rfl, rfl⟩ ⟨Nat.le_of_ble_eq_true rfl, Nat.le_of_ble_eq_true rfl⟩ 0 0 rfl bO_0 rfl rfl rfl (Nat.le_of_ble_eq_true rfl) dL_places_355 ?_
                refine kw_icmp_gt X 469 dL_places_358 (by decide) (fun q808 => ?_) (fun q808 => ?_)
                · replace hF := (if_pos q808).symm.trans hF
                  refine kw_iconst X dL_places_469 ci_0 ?_
                  obtain rfl := si1 hF
                  refine kb_first ?_
                  exact hret _ _ rfl dL_places_470
                · replace hF := (if_neg q808).symm.trans hF
                  refine kw_iload X dL_places_361 7 rfl ?_
                  refine kw_bipush X dL_places_363 cb_m9 ?_
                  obtain ⟨x810, hx811, hF⟩ := pl1_ex hF
                  have J : KW Γ 2 13 (wj [bO cI cC cR h0 h1 t0 t1 a b d ah v, [(q2, .inl (cI, 5, .inl w660))], [(q3, .inl (cI, 8, .inl w661))]]) [(0, .ref h0), (1, .int b1), (2, .int v2_657), (3, .int v3_658), (4, .ref q2), (5, .ref q3), (6, .int v6_774), (7, .int b802)] 373 [.int x810] := by
                    refine kw_aload_n X dL_places_373 rfl 0 rfl ?_
                    refine kw_iload X dL_places_374 6 rfl ?_
                    refine kw_iconst X dL_places_376 ci_2 ?_
                    obtain ⟨b812, hx812, hF⟩ := ob1_ex hF
                    refine kb_ap X (r := .int b812) (As := [.int v6_774, .int 2]) (st := [.int x810]) (cm_stand l D cI cC cR h0 h1 t0 t1 a b d ah v v6_774 2 Z b812 hx812) vl_L_24 yv_X6_stand ⟨Nat.le_of_ble_eq_true rfl, Nat.le_of_ble_eq_true rfl⟩ ⟨rfl, rfl⟩ ⟨Nat.le_of_ble_eq_true rfl, Nat.le_of_ble_eq_true rfl⟩ 0 0 rfl bO_0 rfl rfl rfl (Nat.le_of_ble_eq_true rfl) dL_places_377 ?_
                    refine kw_aload X dL_places_380 5 rfl ?_
                    refine kw_iload X dL_places_382 6 rfl ?_
                    obtain ⟨a813, hx, hF⟩ := ob1_ex hF
                    obtain ⟨hin, hx⟩ := aget_ex hx
                    refine kb_iald X 2 0 0 rfl rfl rfl hin hx dL_places_384 ?_
                    obtain ⟨x815, hx816, hF⟩ := pl1_ex hF
                    have J : KW Γ 2 13 (wj [bO cI cC cR h0 h1 t0 t1 a b d ah v, [(q2, .inl (cI, 5, .inl w660))], [(q3, .inl (cI, 8, .inl w661))]]) [(0, .ref h0), (1, .int b1), (2, .int v2_657), (3, .int v3_658), (4, .ref q2), (5, .ref q3), (6, .int v6_774), (7, .int b802)] 393 [.int x815, .int x810] := by
                      refine kw_icmp_ne X 469 dL_places_393 (by decide) (fun q817 => ?_) (fun q817 => ?_)
                      · replace hF := (if_neg q817).symm.trans hF
                        refine kw_iconst X dL_places_469 ci_0 ?_
                        obtain rfl := si1 hF
                        refine kb_first ?_
                        exact hret _ _ rfl dL_places_470
                      · replace hF := (if_pos q817).symm.trans hF
                        refine kw_iload X dL_places_396 7 rfl ?_
                        refine kw_bipush X dL_places_398 cb_m9 ?_
                        refine kw_icmp_eq X 436 dL_places_400 (by decide) (fun q818 => ?_) (fun q818 => ?_)
                        · replace hF := (if_pos q818).symm.trans hF
                          refine kw_aload_n X dL_places_436 rfl 0 rfl ?_
                          refine kw_iload X dL_places_437 6 rfl ?_
                          refine kw_iconst X dL_places_439 ci_4 ?_
                          obtain ⟨b819, hx819, hF⟩ := ob1_ex hF
                          refine kb_ap X (r := .int b819) (As := [.int v6_774, .int 4]) (st := []) (cm_stand l D cI cC cR h0 h1 t0 t1 a b d ah v v6_774 4 Z b819 hx819) vl_L_24 yv_X6_stand ⟨Nat.le_of_ble_eq_true rfl, Nat.le_of_ble_eq_true rfl⟩ ⟨rfl, rfl⟩ ⟨Nat.le_of_ble_eq_true rfl, Nat.le_of_ble_eq_true rfl⟩ 0 0 rfl bO_0 rfl rfl rfl (Nat.le_of_ble_eq_true rfl) dL_places_440 ?_
                          refine kw_bipush X dL_places_443 cb_m9 ?_
                          obtain ⟨x821, hx822, hF⟩ := pl1_ex hF
                          have J : KW Γ 2 13 (wj [bO cI cC cR h0 h1 t0 t1 a b d ah v, [(q2, .inl (cI, 5, .inl w660))], [(q3, .inl (cI, 8, .inl w661))]]) [(0, .ref h0), (1, .int b1), (2, .int v2_657), (3, .int v3_658), (4, .ref q2), (5, .ref q3), (6, .int v6_774)] 453 [.int x821] := by
                            refine kw_aload X dL_places_453 5 rfl ?_
                            refine kw_iload X dL_places_455 6 rfl ?_
                            obtain ⟨a823, hx, hF⟩ := ob1_ex hF
                            obtain ⟨hin, hx⟩ := aget_ex hx
                            refine kb_iald X 2 0 0 rfl rfl rfl hin hx dL_places_457 ?_
                            obtain ⟨x825, hx826, hF⟩ := pl1_ex hF
                            have J : KW Γ 2 13 (wj [bO cI cC cR h0 h1 t0 t1 a b d ah v, [(q2, .inl (cI, 5, .inl w660))], [(q3, .inl (cI, 8, .inl w661))]]) [(0, .ref h0), (1, .int b1), (2, .int v2_657), (3, .int v3_658), (4, .ref q2), (5, .ref q3), (6, .int v6_774)] 466 [.int x825, .int x821] := by
                              refine kw_icmp_eq X 471 dL_places_466 (by decide) (fun q827 => ?_) (fun q827 => ?_)
                              · replace hF := (if_pos q827).symm.trans hF
                                refine kw_iinc (lo' := [(0, .ref h0), (1, .int b1), (2, .int v2_657), (3, .int v3_658), (4, .ref q2), (5, .ref q3), (6, .int (v6_774 + 1))]) X dL_places_471 6 rfl (congrArg (fun w => v6_774 + w) ci_1) (by decide) [1, 2, 3, 4, 5, 6, 0] rfl ?_
                                refine kw_goto X 315 dL_places_474 (by decide) ?_
                                exact ih315 _ hF
                              · replace hF := (if_neg q827).symm.trans hF
                                refine kw_iconst X dL_places_469 ci_0 ?_
                                obtain rfl := si1 hF
                                refine kb_first ?_
                                exact hret _ _ rfl dL_places_470
                            replace hF := hx826
                            refine kw_if_ne X 465 dL_places_458 (by decide) (fun q824 => ?_) (fun q824 => ?_)
                            · replace hF := (if_neg q824).symm.trans hF
                              refine kw_iconst X dL_places_465 ci_0 ?_
                              obtain rfl := ti1 hF
                              exact J
                            · replace hF := (if_pos q824).symm.trans hF
                              refine kw_iconst X dL_places_461 ci_1 ?_
                              refine kw_goto X 466 dL_places_462 (by decide) ?_
                              obtain rfl := ti1 hF
                              exact J
                          replace hF := hx822
                          refine kw_icmp_ne X 452 dL_places_445 (by decide) (fun q820 => ?_) (fun q820 => ?_)
                          · replace hF := (if_neg q820).symm.trans hF
                            refine kw_iconst X dL_places_452 ci_0 ?_
                            refine kw_loc (lo' := [(0, .ref h0), (1, .int b1), (2, .int v2_657), (3, .int v3_658), (4, .ref q2), (5, .ref q3), (6, .int v6_774)]) [0, 1, 2, 3, 4, 5, 6] rfl ?_
                            obtain rfl := ti1 hF
                            exact J
                          · replace hF := (if_pos q820).symm.trans hF
                            refine kw_iconst X dL_places_448 ci_1 ?_
                            refine kw_goto X 453 dL_places_449 (by decide) ?_
                            refine kw_loc (lo' := [(0, .ref h0), (1, .int b1), (2, .int v2_657), (3, .int v3_658), (4, .ref q2), (5, .ref q3), (6, .int v6_774)]) [0, 1, 2, 3, 4, 5, 6] rfl ?_
                            obtain rfl := ti1 hF
                            exact J
                        · replace hF := (if_neg q818).symm.trans hF
                          refine kw_aload_n X dL_places_403 rfl 0 rfl ?_
                          refine kw_iload X dL_places_404 7 rfl ?_
                          refine kw_iconst X dL_places_406 ci_3 ?_
                          obtain ⟨b828, hx828, hF⟩ := ob1_ex hF
                          refine kb_ap X (r := .int b828) (As := [.int b802, .int 3]) (st := []) (cm_umbrella l D cI cC cR h0 h1 t0 t1 a b d ah v b802 3 b828 hx828) vl_L_15 yv_X6_umbrella ⟨Nat.le_of_ble_eq_true rfl, Nat.le_of_ble_eq_true rfl⟩ ⟨rfl, rfl⟩ ⟨Nat.le_of_ble_eq_true rfl, Nat.le_of_ble_eq_true rfl⟩ 0 0 rfl bO_0 rfl rfl rfl (Nat.le_of_ble_eq_true rfl) dL_places_407 ?_
                          refine kw_iconst X dL_places_410 ci_1 ?_
                          refine kw_icmp_eq X 469 dL_places_411 (by decide) (fun q829 => ?_) (fun q829 => ?_)
                          · replace hF := (if_pos q829).symm.trans hF
                            refine kw_iconst X dL_places_469 ci_0 ?_
                            obtain rfl := si1 hF
                            refine kb_first ?_
                            exact hret _ _ rfl dL_places_470
                          · replace hF := (if_neg q829).symm.trans hF
                            refine kw_aload_n X dL_places_414 rfl 0 rfl ?_
                            refine kw_iload X dL_places_415 7 rfl ?_
                            refine kw_iconst X dL_places_417 ci_0 ?_
                            obtain ⟨b830, hx830, hF⟩ := ob1_ex hF
                            refine kb_ap X (r := .int b830) (As := [.int b802, .int 0]) (st := []) (cm_umbrella l D cI cC cR h0 h1 t0 t1 a b d ah v b802 0 b830 hx830) vl_L_15 yv_X6_umbrella ⟨Nat.le_of_ble_eq_true rfl, Nat.le_of_ble_eq_true rfl⟩ ⟨rfl, rfl⟩ ⟨Nat.le_of_ble_eq_true rfl, Nat.le_of_ble_eq_true rfl⟩ 0 0 rfl bO_0 rfl rfl rfl (Nat.le_of_ble_eq_true rfl) dL_places_418 ?_
                            refine kw_if_ne X 469 dL_places_421 (by decide) (fun q831 => ?_) (fun q831 => ?_)
                            · replace hF := (if_neg q831).symm.trans hF
                              refine kw_iconst X dL_places_469 ci_0 ?_
                              obtain rfl := si1 hF
                              refine kb_first ?_
                              exact hret _ _ rfl dL_places_470
                            · replace hF := (if_pos q831).symm.trans hF
                              refine kw_aload_n X dL_places_424 rfl 0 rfl ?_
                              refine kw_iload X dL_places_425 7 rfl ?_
                              refine kw_iconst X dL_places_427 ci_1 ?_
                              obtain ⟨b832, hx832, hF⟩ := ob1_ex hF
                              refine kb_ap X (r := .int b832) (As := [.int b802, .int 1]) (st := []) (cm_umbrella l D cI cC cR h0 h1 t0 t1 a b d ah v b802 1 b832 hx832) vl_L_15 yv_X6_umbrella ⟨Nat.le_of_ble_eq_true rfl, Nat.le_of_ble_eq_true rfl⟩ ⟨rfl, rfl⟩ ⟨Nat.le_of_ble_eq_true rfl, Nat.le_of_ble_eq_true rfl⟩ 0 0 rfl bO_0 rfl rfl rfl (Nat.le_of_ble_eq_true rfl) dL_places_428 ?_
                              refine kw_iload X dL_places_431 6 rfl ?_
                              refine kw_icmp_ne X 469 dL_places_433 (by decide) (fun q833 => ?_) (fun q833 => ?_)
                              · replace hF := (if_neg q833).symm.trans hF
                                refine kw_iconst X dL_places_469 ci_0 ?_
                                obtain rfl := si1 hF
                                refine kb_first ?_
                                exact hret _ _ rfl dL_places_470
                              · replace hF := (if_pos q833).symm.trans hF
                                refine kw_aload_n X dL_places_436 rfl 0 rfl ?_
                                refine kw_iload X dL_places_437 6 rfl ?_
                                refine kw_iconst X dL_places_439 ci_4 ?_
                                obtain ⟨b834, hx834, hF⟩ := ob1_ex hF
                                refine kb_ap X (r := .int b834) (As := [.int v6_774, .int 4]) (st := []) (cm_stand l D cI cC cR h0 h1 t0 t1 a b d ah v v6_774 4 Z b834 hx834) vl_L_24 yv_X6_stand ⟨Nat.le_of_ble_eq_true rfl, Nat.le_of_ble_eq_true rfl⟩ ⟨rfl, rfl⟩ ⟨Nat.le_of_ble_eq_true rfl, Nat.le_of_ble_eq_true rfl⟩ 0 0 rfl bO_0 rfl rfl rfl (Nat.le_of_ble_eq_true rfl) dL_places_440 ?_
                                refine kw_bipush X dL_places_443 cb_m9 ?_
                                obtain ⟨x836, hx837, hF⟩ := pl1_ex hF
                                have J : KW Γ 2 13 (wj [bO cI cC cR h0 h1 t0 t1 a b d ah v, [(q2, .inl (cI, 5, .inl w660))], [(q3, .inl (cI, 8, .inl w661))]]) [(0, .ref h0), (1, .int b1), (2, .int v2_657), (3, .int v3_658), (4, .ref q2), (5, .ref q3), (6, .int v6_774)] 453 [.int x836] := by
                                  refine kw_aload X dL_places_453 5 rfl ?_
                                  refine kw_iload X dL_places_455 6 rfl ?_
                                  obtain ⟨a838, hx, hF⟩ := ob1_ex hF
                                  obtain ⟨hin, hx⟩ := aget_ex hx
                                  refine kb_iald X 2 0 0 rfl rfl rfl hin hx dL_places_457 ?_
                                  obtain ⟨x840, hx841, hF⟩ := pl1_ex hF
                                  have J : KW Γ 2 13 (wj [bO cI cC cR h0 h1 t0 t1 a b d ah v, [(q2, .inl (cI, 5, .inl w660))], [(q3, .inl (cI, 8, .inl w661))]]) [(0, .ref h0), (1, .int b1), (2, .int v2_657), (3, .int v3_658), (4, .ref q2), (5, .ref q3), (6, .int v6_774)] 466 [.int x840, .int x836] := by
                                    refine kw_icmp_eq X 471 dL_places_466 (by decide) (fun q842 => ?_) (fun q842 => ?_)
                                    · replace hF := (if_pos q842).symm.trans hF
                                      refine kw_iinc (lo' := [(0, .ref h0), (1, .int b1), (2, .int v2_657), (3, .int v3_658), (4, .ref q2), (5, .ref q3), (6, .int (v6_774 + 1))]) X dL_places_471 6 rfl (congrArg (fun w => v6_774 + w) ci_1) (by decide) [1, 2, 3, 4, 5, 6, 0] rfl ?_
                                      refine kw_goto X 315 dL_places_474 (by decide) ?_
                                      exact ih315 _ hF
                                    · replace hF := (if_neg q842).symm.trans hF
                                      refine kw_iconst X dL_places_469 ci_0 ?_
                                      obtain rfl := si1 hF
                                      refine kb_first ?_
                                      exact hret _ _ rfl dL_places_470
                                  replace hF := hx841
                                  refine kw_if_ne X 465 dL_places_458 (by decide) (fun q839 => ?_) (fun q839 => ?_)
                                  · replace hF := (if_neg q839).symm.trans hF
                                    refine kw_iconst X dL_places_465 ci_0 ?_
                                    obtain rfl := ti1 hF
                                    exact J
                                  · replace hF := (if_pos q839).symm.trans hF
                                    refine kw_iconst X dL_places_461 ci_1 ?_
                                    refine kw_goto X 466 dL_places_462 (by decide) ?_
                                    obtain rfl := ti1 hF
                                    exact J
                                replace hF := hx837
                                refine kw_icmp_ne X 452 dL_places_445 (by decide) (fun q835 => ?_) (fun q835 => ?_)
                                · replace hF := (if_neg q835).symm.trans hF
                                  refine kw_iconst X dL_places_452 ci_0 ?_
                                  refine kw_loc (lo' := [(0, .ref h0), (1, .int b1), (2, .int v2_657), (3, .int v3_658), (4, .ref q2), (5, .ref q3), (6, .int v6_774)]) [0, 1, 2, 3, 4, 5, 6] rfl ?_
                                  obtain rfl := ti1 hF
                                  exact J
                                · replace hF := (if_pos q835).symm.trans hF
                                  refine kw_iconst X dL_places_448 ci_1 ?_
                                  refine kw_goto X 453 dL_places_449 (by decide) ?_
                                  refine kw_loc (lo' := [(0, .ref h0), (1, .int b1), (2, .int v2_657), (3, .int v3_658), (4, .ref q2), (5, .ref q3), (6, .int v6_774)]) [0, 1, 2, 3, 4, 5, 6] rfl ?_
                                  obtain rfl := ti1 hF
                                  exact J
                    replace hF := hx816
                    refine kw_icmp_ne X 392 dL_places_385 (by decide) (fun q814 => ?_) (fun q814 => ?_)
                    · replace hF := (if_neg q814).symm.trans hF
                      refine kw_iconst X dL_places_392 ci_0 ?_
                      obtain rfl := ti1 hF
                      exact J
                    · replace hF := (if_pos q814).symm.trans hF
                      refine kw_iconst X dL_places_388 ci_1 ?_
                      refine kw_goto X 393 dL_places_389 (by decide) ?_
                      obtain rfl := ti1 hF
                      exact J
                  replace hF := hx811
                  refine kw_icmp_ne X 372 dL_places_365 (by decide) (fun q809 => ?_) (fun q809 => ?_)
                  · replace hF := (if_neg q809).symm.trans hF
                    refine kw_iconst X dL_places_372 ci_0 ?_
                    obtain rfl := ti1 hF
                    exact J
                  · replace hF := (if_pos q809).symm.trans hF
                    refine kw_iconst X dL_places_368 ci_1 ?_
                    refine kw_goto X 373 dL_places_369 (by decide) ?_
                    obtain rfl := ti1 hF
                    exact J
        exact hL315 Z _ hF
      · replace hF := (if_pos q662).symm.trans hF
        refine kw_aload_n X dL_places_30 rfl 0 rfl ?_
        refine kw_iload X dL_places_31 6 rfl ?_
        refine kw_iconst X dL_places_33 ci_0 ?_
        obtain ⟨b843, hx843, hF⟩ := ob1_ex hF
        refine kb_ap X (r := .int b843) (As := [.int v6_659, .int 0]) (st := []) (cm_umbrella l D cI cC cR h0 h1 t0 t1 a b d ah v v6_659 0 b843 hx843) vl_L_15 yv_X6_umbrella ⟨Nat.le_of_ble_eq_true rfl, Nat.le_of_ble_eq_true rfl⟩ ⟨rfl, rfl⟩ ⟨Nat.le_of_ble_eq_true rfl, Nat.le_of_ble_eq_true rfl⟩ 0 0 rfl bO_0 rfl rfl rfl (Nat.le_of_ble_eq_true rfl) dL_places_34 ?_
        refine kw_istore (lo' := [(0, .ref h0), (1, .int b1), (2, .int v2_657), (3, .int v3_658), (4, .ref q2), (5, .ref q3), (6, .int v6_659), (7, .int b843)]) X dL_places_37 (by decide) [1, 2, 3, 4, 5, 6, 7, 0] rfl ?_
        refine kw_aload_n X dL_places_39 rfl 0 rfl ?_
        refine kw_iload X dL_places_40 6 rfl ?_
        refine kw_iconst X dL_places_42 ci_1 ?_
        obtain ⟨b844, hx844, hF⟩ := ob1_ex hF
        refine kb_ap X (r := .int b844) (As := [.int v6_659, .int 1]) (st := []) (cm_umbrella l D cI cC cR h0 h1 t0 t1 a b d ah v v6_659 1 b844 hx844) vl_L_15 yv_X6_umbrella ⟨Nat.le_of_ble_eq_true rfl, Nat.le_of_ble_eq_true rfl⟩ ⟨rfl, rfl⟩ ⟨Nat.le_of_ble_eq_true rfl, Nat.le_of_ble_eq_true rfl⟩ 0 0 rfl bO_0 rfl rfl rfl (Nat.le_of_ble_eq_true rfl) dL_places_43 ?_
        refine kw_istore (lo' := [(0, .ref h0), (1, .int b1), (2, .int v2_657), (3, .int v3_658), (4, .ref q2), (5, .ref q3), (6, .int v6_659), (7, .int b843), (8, .int b844)]) X dL_places_46 (by decide) [1, 2, 3, 4, 5, 6, 7, 8, 0] rfl ?_
        refine kw_aload_n X dL_places_48 rfl 0 rfl ?_
        refine kw_iload X dL_places_49 6 rfl ?_
        refine kw_iconst X dL_places_51 ci_2 ?_
        obtain ⟨b845, hx845, hF⟩ := ob1_ex hF
        refine kb_ap X (r := .int b845) (As := [.int v6_659, .int 2]) (st := []) (cm_umbrella l D cI cC cR h0 h1 t0 t1 a b d ah v v6_659 2 b845 hx845) vl_L_15 yv_X6_umbrella ⟨Nat.le_of_ble_eq_true rfl, Nat.le_of_ble_eq_true rfl⟩ ⟨rfl, rfl⟩ ⟨Nat.le_of_ble_eq_true rfl, Nat.le_of_ble_eq_true rfl⟩ 0 0 rfl bO_0 rfl rfl rfl (Nat.le_of_ble_eq_true rfl) dL_places_52 ?_
        refine kw_istore (lo' := [(0, .ref h0), (1, .int b1), (2, .int v2_657), (3, .int v3_658), (4, .ref q2), (5, .ref q3), (6, .int v6_659), (7, .int b843), (8, .int b844), (9, .int b845)]) X dL_places_55 (by decide) [1, 2, 3, 4, 5, 6, 7, 8, 9, 0] rfl ?_
        refine kw_aload X dL_places_57 4 rfl ?_
        refine kw_iload X dL_places_59 7 rfl ?_
        refine kw_dup2 X dL_places_61 rfl rfl ?_
        obtain ⟨a846, hx, hF⟩ := ob1_ex hF
        obtain ⟨hin, hx⟩ := aget_ex hx
        refine kb_iald X 1 0 0 rfl rfl rfl hin hx dL_places_62 ?_
        refine kw_iconst X dL_places_63 ci_1 ?_
        refine kw_iadd X dL_places_64 ?_
        obtain ⟨m847, hx, hF⟩ := ob1_ex hF
        obtain ⟨hin, hx⟩ := aset_ex hx
        refine kb_iast X (bs' := [bO cI cC cR h0 h1 t0 t1 a b d ah v, [(q2, .inl (cI, 5, .inl m847))], [(q3, .inl (cI, 8, .inl w661))]]) E 1 0 0 rfl rfl rfl hin (by rw [hx]; rfl) dL_places_65 ?_
        refine kw_iload_n X dL_places_66 rfl 3 rfl ?_
        refine kw_aload_n X dL_places_67 rfl 0 rfl ?_
        refine kw_iload X dL_places_68 6 rfl ?_
        refine kw_iconst X dL_places_70 ci_4 ?_
        obtain ⟨b848, hx848, hF⟩ := ob1_ex hF
        refine kb_ap X (r := .int b848) (As := [.int v6_659, .int 4]) (st := [.int v3_658]) (cm_umbrella l D cI cC cR h0 h1 t0 t1 a b d ah v v6_659 4 b848 hx848) vl_L_15 yv_X6_umbrella ⟨Nat.le_of_ble_eq_true rfl, Nat.le_of_ble_eq_true rfl⟩ ⟨rfl, rfl⟩ ⟨Nat.le_of_ble_eq_true rfl, Nat.le_of_ble_eq_true rfl⟩ 0 0 rfl bO_0 rfl rfl rfl (Nat.le_of_ble_eq_true rfl) dL_places_71 ?_
        refine kw_iadd X dL_places_74 ?_
        refine kw_istore_n (lo' := [(0, .ref h0), (1, .int b1), (2, .int v2_657), (3, .int (v3_658 + b848)), (4, .ref q2), (5, .ref q3), (6, .int v6_659), (7, .int b843), (8, .int b844), (9, .int b845)]) X dL_places_75 rfl (by decide) [1, 2, 3, 0, 4, 5, 6, 7, 8, 9] rfl ?_
        refine kw_iload_n X dL_places_76 rfl 2 rfl ?_
        refine kw_iload X dL_places_77 7 rfl ?_
        refine kw_iconst X dL_places_79 ci_4 ?_
        obtain ⟨x851, hx852, hF⟩ := ob1_ex hF
        have J : KW Γ 2 13 (wj [bO cI cC cR h0 h1 t0 t1 a b d ah v, [(q2, .inl (cI, 5, .inl m847))], [(q3, .inl (cI, 8, .inl w661))]]) [(0, .ref h0), (1, .int b1), (3, .int (v3_658 + b848)), (4, .ref q2), (5, .ref q3), (6, .int v6_659), (7, .int b843), (8, .int b844), (9, .int b845)] 94 [.int x851, .int v2_657] := by
          refine kw_iadd X dL_places_94 ?_
          refine kw_istore_n (lo' := [(0, .ref h0), (1, .int b1), (2, .int (v2_657 + x851)), (3, .int (v3_658 + b848)), (4, .ref q2), (5, .ref q3), (6, .int v6_659), (7, .int b843), (8, .int b844), (9, .int b845)]) X dL_places_95 rfl (by decide) [1, 2, 0, 3, 4, 5, 6, 7, 8, 9] rfl ?_
          refine kw_iload X dL_places_96 9 rfl ?_
          refine kw_if_lt X 196 dL_places_98 (by decide) (fun q853 => ?_) (fun q853 => ?_)
          · replace hF := (if_pos q853).symm.trans hF
            refine kw_iconst X dL_places_196 ci_0 ?_
            obtain rfl := si1 hF
            refine kb_first ?_
            exact hret _ _ rfl dL_places_197
          · replace hF := (if_neg q853).symm.trans hF
            refine kw_iload X dL_places_101 9 rfl ?_
            refine kw_bipush X dL_places_103 cb_64 ?_
            refine kw_icmp_gt X 196 dL_places_105 (by decide) (fun q854 => ?_) (fun q854 => ?_)
            · replace hF := (if_pos q854).symm.trans hF
              refine kw_iconst X dL_places_196 ci_0 ?_
              obtain rfl := si1 hF
              refine kb_first ?_
              exact hret _ _ rfl dL_places_197
            · replace hF := (if_neg q854).symm.trans hF
              refine kw_aload_n X dL_places_108 rfl 0 rfl ?_
              refine kw_iload X dL_places_109 6 rfl ?_
              refine kw_iconst X dL_places_111 ci_3 ?_
              obtain ⟨b855, hx855, hF⟩ := ob1_ex hF
              refine kb_ap X (r := .int b855) (As := [.int v6_659, .int 3]) (st := []) (cm_umbrella l D cI cC cR h0 h1 t0 t1 a b d ah v v6_659 3 b855 hx855) vl_L_15 yv_X6_umbrella ⟨Nat.le_of_ble_eq_true rfl, Nat.le_of_ble_eq_true rfl⟩ ⟨rfl, rfl⟩ ⟨Nat.le_of_ble_eq_true rfl, Nat.le_of_ble_eq_true rfl⟩ 0 0 rfl bO_0 rfl rfl rfl (Nat.le_of_ble_eq_true rfl) dL_places_112 ?_
              refine kw_iconst X dL_places_115 ci_1 ?_
              obtain ⟨x857, hx858, hF⟩ := pl1_ex hF
              have J : KW Γ 2 13 (wj [bO cI cC cR h0 h1 t0 t1 a b d ah v, [(q2, .inl (cI, 5, .inl m847))], [(q3, .inl (cI, 8, .inl w661))]]) [(0, .ref h0), (1, .int b1), (2, .int (v2_657 + x851)), (3, .int (v3_658 + b848)), (4, .ref q2), (5, .ref q3), (6, .int v6_659), (7, .int b843), (8, .int b844), (9, .int b845)] 124 [.int x857] := by
                refine kw_iload X dL_places_124 9 rfl ?_
                refine kw_bipush X dL_places_126 cb_31 ?_
                obtain ⟨x860, hx861, hF⟩ := pl1_ex hF
                have J : KW Γ 2 13 (wj [bO cI cC cR h0 h1 t0 t1 a b d ah v, [(q2, .inl (cI, 5, .inl m847))], [(q3, .inl (cI, 8, .inl w661))]]) [(0, .ref h0), (1, .int b1), (2, .int (v2_657 + x851)), (3, .int (v3_658 + b848)), (4, .ref q2), (5, .ref q3), (6, .int v6_659), (7, .int b843), (8, .int b844), (9, .int b845)] 136 [.int x860, .int x857] := by
                  refine kw_icmp_ne X 196 dL_places_136 (by decide) (fun q862 => ?_) (fun q862 => ?_)
                  · replace hF := (if_neg q862).symm.trans hF
                    refine kw_iconst X dL_places_196 ci_0 ?_
                    obtain rfl := si1 hF
                    refine kb_first ?_
                    exact hret _ _ rfl dL_places_197
                  · replace hF := (if_pos q862).symm.trans hF
                    refine kw_iload X dL_places_139 8 rfl ?_
                    refine kw_bipush X dL_places_141 cb_m9 ?_
                    obtain ⟨x864, hx865, hF⟩ := pl1_ex hF
                    have J : KW Γ 2 13 (wj [bO cI cC cR h0 h1 t0 t1 a b d ah v, [(q2, .inl (cI, 5, .inl m847))], [(q3, .inl (cI, 8, .inl w661))]]) [(0, .ref h0), (1, .int b1), (2, .int (v2_657 + x851)), (3, .int (v3_658 + b848)), (4, .ref q2), (5, .ref q3), (6, .int v6_659), (7, .int b843), (8, .int b844), (9, .int b845)] 151 [.int x864] := by
                      refine kw_iload X dL_places_151 7 rfl ?_
                      refine kw_iconst X dL_places_153 ci_2 ?_
                      obtain ⟨x867, hx868, hF⟩ := pl1_ex hF
                      have J : KW Γ 2 13 (wj [bO cI cC cR h0 h1 t0 t1 a b d ah v, [(q2, .inl (cI, 5, .inl m847))], [(q3, .inl (cI, 8, .inl w661))]]) [(0, .ref h0), (1, .int b1), (2, .int (v2_657 + x851)), (3, .int (v3_658 + b848)), (4, .ref q2), (5, .ref q3), (6, .int v6_659), (7, .int b843), (8, .int b844), (9, .int b845)] 162 [.int x867, .int x864] := by
                        refine kw_icmp_ne X 196 dL_places_162 (by decide) (fun q869 => ?_) (fun q869 => ?_)
                        · replace hF := (if_neg q869).symm.trans hF
                          refine kw_iconst X dL_places_196 ci_0 ?_
                          obtain rfl := si1 hF
                          refine kb_first ?_
                          exact hret _ _ rfl dL_places_197
                        · replace hF := (if_pos q869).symm.trans hF
                          refine kw_iload X dL_places_165 7 rfl ?_
                          refine kw_iconst X dL_places_167 ci_1 ?_
                          refine kw_icmp_ne X 183 dL_places_168 (by decide) (fun q870 => ?_) (fun q870 => ?_)
                          · replace hF := (if_neg q870).symm.trans hF
                            refine kw_iload X dL_places_183 7 rfl ?_
                            refine kw_iconst X dL_places_185 ci_3 ?_
                            refine kw_icmp_ne X 198 dL_places_186 (by decide) (fun q871 => ?_) (fun q871 => ?_)
                            · replace hF := (if_neg q871).symm.trans hF
                              refine kw_iload X dL_places_198 7 rfl ?_
                              refine kw_if_ne X 306 dL_places_200 (by decide) (fun q872 => ?_) (fun q872 => ?_)
                              · replace hF := (if_neg q872).symm.trans hF
                                refine kw_iinc (lo' := [(0, .ref h0), (1, .int b1), (2, .int (v2_657 + x851)), (3, .int (v3_658 + b848)), (4, .ref q2), (5, .ref q3), (6, .int (v6_659 + 1)), (7, .int b843), (8, .int b844), (9, .int b845)]) X dL_places_306 6 rfl (congrArg (fun w => v6_659 + w) ci_1) (by decide) [1, 2, 3, 4, 5, 6, 0, 7, 8, 9] rfl ?_
                                refine kw_goto X 24 dL_places_309 (by decide) ?_
                                refine kw_loc (lo' := [(0, .ref h0), (1, .int b1), (2, .int (v2_657 + x851)), (3, .int (v3_658 + b848)), (4, .ref q2), (5, .ref q3), (6, .int (v6_659 + 1))]) [0, 1, 2, 3, 4, 5, 6] rfl ?_
                                exact ih24 _ _ _ _ _ hF
                              · replace hF := (if_pos q872).symm.trans hF
                                refine kw_aload X dL_places_203 5 rfl ?_
                                refine kw_iload X dL_places_205 8 rfl ?_
                                refine kw_dup2 X dL_places_207 rfl rfl ?_
                                obtain ⟨a873, hx, hF⟩ := ob1_ex hF
                                obtain ⟨hin, hx⟩ := aget_ex hx
                                refine kb_iald X 2 0 0 rfl rfl rfl hin hx dL_places_208 ?_
                                refine kw_iconst X dL_places_209 ci_1 ?_
                                refine kw_iadd X dL_places_210 ?_
                                obtain ⟨m874, hx, hF⟩ := ob1_ex hF
                                obtain ⟨hin, hx⟩ := aset_ex hx
                                refine kb_iast X (bs' := [bO cI cC cR h0 h1 t0 t1 a b d ah v, [(q2, .inl (cI, 5, .inl m847))], [(q3, .inl (cI, 8, .inl m874))]]) E 2 0 0 rfl rfl rfl hin (by rw [hx]; rfl) dL_places_211 ?_
                                refine kw_aload_n X dL_places_212 rfl 0 rfl ?_
                                refine kw_iload X dL_places_213 8 rfl ?_
                                refine kw_iconst X dL_places_215 ci_3 ?_
                                obtain ⟨b875, hx875, hF⟩ := ob1_ex hF
                                refine kb_ap X (r := .int b875) (As := [.int b844, .int 3]) (st := []) (cm_stand l D cI cC cR h0 h1 t0 t1 a b d ah v b844 3 Z b875 hx875) vl_L_24 yv_X6_stand ⟨Nat.le_of_ble_eq_true rfl, Nat.le_of_ble_eq_true rfl⟩ ⟨rfl, rfl⟩ ⟨Nat.le_of_ble_eq_true rfl, Nat.le_of_ble_eq_true rfl⟩ 0 0 rfl bO_0 rfl rfl rfl (Nat.le_of_ble_eq_true rfl) dL_places_216 ?_
                                refine kw_istore (lo' := [(0, .ref h0), (1, .int b1), (2, .int (v2_657 + x851)), (3, .int (v3_658 + b848)), (4, .ref q2), (5, .ref q3), (6, .int v6_659), (7, .int b843), (8, .int b844), (9, .int b845), (10, .int b875)]) X dL_places_219 (by decide) [1, 2, 3, 4, 5, 6, 7, 8, 9, 10, 0] rfl ?_
                                refine kw_aload_n X dL_places_221 rfl 0 rfl ?_
                                refine kw_iload X dL_places_222 8 rfl ?_
                                refine kw_iconst X dL_places_224 ci_4 ?_
                                obtain ⟨b876, hx876, hF⟩ := ob1_ex hF
                                refine kb_ap X (r := .int b876) (As := [.int b844, .int 4]) (st := []) (cm_stand l D cI cC cR h0 h1 t0 t1 a b d ah v b844 4 Z b876 hx876) vl_L_24 yv_X6_stand ⟨Nat.le_of_ble_eq_true rfl, Nat.le_of_ble_eq_true rfl⟩ ⟨rfl, rfl⟩ ⟨Nat.le_of_ble_eq_true rfl, Nat.le_of_ble_eq_true rfl⟩ 0 0 rfl bO_0 rfl rfl rfl (Nat.le_of_ble_eq_true rfl) dL_places_225 ?_
                                refine kw_istore (lo' := [(0, .ref h0), (1, .int b1), (2, .int (v2_657 + x851)), (3, .int (v3_658 + b848)), (4, .ref q2), (5, .ref q3), (6, .int v6_659), (7, .int b843), (8, .int b844), (9, .int b845), (10, .int b875), (11, .int b876)]) X dL_places_228 (by decide) [1, 2, 3, 4, 5, 6, 7, 8, 9, 10, 11, 0] rfl ?_
                                refine kw_iload X dL_places_230 9 rfl ?_
                                refine kw_bipush X dL_places_232 cb_32 ?_
                                refine kw_icmp_ge X 273 dL_places_234 (by decide) (fun q877 => ?_) (fun q877 => ?_)
                                · replace hF := (if_neg q877).symm.trans hF
                                  refine kw_aload_n X dL_places_273 rfl 0 rfl ?_
                                  refine kw_iload X dL_places_274 11 rfl ?_
                                  refine kw_iconst X dL_places_276 ci_2 ?_
                                  obtain ⟨b878, hx878, hF⟩ := ob1_ex hF
                                  refine kb_ap X (r := .int b878) (As := [.int b876, .int 2]) (st := []) (cm_umbrella l D cI cC cR h0 h1 t0 t1 a b d ah v b876 2 b878 hx878) vl_L_15 yv_X6_umbrella ⟨Nat.le_of_ble_eq_true rfl, Nat.le_of_ble_eq_true rfl⟩ ⟨rfl, rfl⟩ ⟨Nat.le_of_ble_eq_true rfl, Nat.le_of_ble_eq_true rfl⟩ 0 0 rfl bO_0 rfl rfl rfl (Nat.le_of_ble_eq_true rfl) dL_places_277 ?_
                                  refine kw_iload X dL_places_280 9 rfl ?_
                                  refine kw_icmp_lt X 304 dL_places_282 (by decide) (fun q879 => ?_) (fun q879 => ?_)
                                  · replace hF := (if_pos q879).symm.trans hF
                                    refine kw_iconst X dL_places_304 ci_0 ?_
                                    obtain rfl := si1 hF
                                    refine kb_first ?_
                                    exact hret _ _ rfl dL_places_305
                                  · replace hF := (if_neg q879).symm.trans hF
                                    refine kw_aload_n X dL_places_285 rfl 0 rfl ?_
                                    refine kw_iload X dL_places_286 11 rfl ?_
                                    refine kw_iconst X dL_places_288 ci_2 ?_
                                    obtain ⟨b880, hx880, hF⟩ := ob1_ex hF
                                    refine kb_ap X (r := .int b880) (As := [.int b876, .int 2]) (st := []) (cm_umbrella l D cI cC cR h0 h1 t0 t1 a b d ah v b876 2 b880 hx880) vl_L_15 yv_X6_umbrella ⟨Nat.le_of_ble_eq_true rfl, Nat.le_of_ble_eq_true rfl⟩ ⟨rfl, rfl⟩ ⟨Nat.le_of_ble_eq_true rfl, Nat.le_of_ble_eq_true rfl⟩ 0 0 rfl bO_0 rfl rfl rfl (Nat.le_of_ble_eq_true rfl) dL_places_289 ?_
                                    refine kw_iload X dL_places_292 9 rfl ?_
                                    refine kw_icmp_ne X 306 dL_places_294 (by decide) (fun q881 => ?_) (fun q881 => ?_)
                                    · replace hF := (if_neg q881).symm.trans hF
                                      refine kw_iinc (lo' := [(0, .ref h0), (1, .int b1), (2, .int (v2_657 + x851)), (3, .int (v3_658 + b848)), (4, .ref q2), (5, .ref q3), (6, .int (v6_659 + 1)), (7, .int b843), (8, .int b844), (9, .int b845), (10, .int b875), (11, .int b876)]) X dL_places_306 6 rfl (congrArg (fun w => v6_659 + w) ci_1) (by decide) [1, 2, 3, 4, 5, 6, 0, 7, 8, 9, 10, 11] rfl ?_
                                      refine kw_goto X 24 dL_places_309 (by decide) ?_
                                      refine kw_loc (lo' := [(0, .ref h0), (1, .int b1), (2, .int (v2_657 + x851)), (3, .int (v3_658 + b848)), (4, .ref q2), (5, .ref q3), (6, .int (v6_659 + 1))]) [0, 1, 2, 3, 4, 5, 6] rfl ?_
                                      exact ih24 _ _ _ _ _ hF
                                    · replace hF := (if_pos q881).symm.trans hF
                                      refine kw_iload X dL_places_297 11 rfl ?_
                                      refine kw_iload X dL_places_299 6 rfl ?_
                                      refine kw_icmp_le X 306 dL_places_301 (by decide) (fun q882 => ?_) (fun q882 => ?_)
                                      · replace hF := (if_neg q882).symm.trans hF
                                        refine kw_iinc (lo' := [(0, .ref h0), (1, .int b1), (2, .int (v2_657 + x851)), (3, .int (v3_658 + b848)), (4, .ref q2), (5, .ref q3), (6, .int (v6_659 + 1)), (7, .int b843), (8, .int b844), (9, .int b845), (10, .int b875), (11, .int b876)]) X dL_places_306 6 rfl (congrArg (fun w => v6_659 + w) ci_1) (by decide) [1, 2, 3, 4, 5, 6, 0, 7, 8, 9, 10, 11] rfl ?_
                                        refine kw_goto X 24 dL_places_309 (by decide) ?_
                                        refine kw_loc (lo' := [(0, .ref h0), (1, .int b1), (2, .int (v2_657 + x851)), (3, .int (v3_658 + b848)), (4, .ref q2), (5, .ref q3), (6, .int (v6_659 + 1))]) [0, 1, 2, 3, 4, 5, 6] rfl ?_
                                        exact ih24 _ _ _ _ _ hF
                                      · replace hF := (if_pos q882).symm.trans hF
                                        refine kw_iconst X dL_places_304 ci_0 ?_
                                        obtain rfl := si1 hF
                                        refine kb_first ?_
                                        exact hret _ _ rfl dL_places_305
                                · replace hF := (if_pos q877).symm.trans hF
                                  refine kw_iload X dL_places_237 10 rfl ?_
                                  refine kw_if_lt X 304 dL_places_239 (by decide) (fun q883 => ?_) (fun q883 => ?_)
                                  · replace hF := (if_pos q883).symm.trans hF
                                    refine kw_iconst X dL_places_304 ci_0 ?_
                                    obtain rfl := si1 hF
                                    refine kb_first ?_
                                    exact hret _ _ rfl dL_places_305
                                  · replace hF := (if_neg q883).symm.trans hF
                                    refine kw_aload_n X dL_places_242 rfl 0 rfl ?_
                                    refine kw_iload X dL_places_243 10 rfl ?_
                                    refine kw_iconst X dL_places_245 ci_2 ?_
                                    obtain ⟨b884, hx884, hF⟩ := ob1_ex hF
                                    refine kb_ap X (r := .int b884) (As := [.int b875, .int 2]) (st := []) (cm_umbrella l D cI cC cR h0 h1 t0 t1 a b d ah v b875 2 b884 hx884) vl_L_15 yv_X6_umbrella ⟨Nat.le_of_ble_eq_true rfl, Nat.le_of_ble_eq_true rfl⟩ ⟨rfl, rfl⟩ ⟨Nat.le_of_ble_eq_true rfl, Nat.le_of_ble_eq_true rfl⟩ 0 0 rfl bO_0 rfl rfl rfl (Nat.le_of_ble_eq_true rfl) dL_places_246 ?_
                                    refine kw_iload X dL_places_249 9 rfl ?_
                                    refine kw_icmp_gt X 304 dL_places_251 (by decide) (fun q885 => ?_) (fun q885 => ?_)
                                    · replace hF := (if_pos q885).symm.trans hF
                                      refine kw_iconst X dL_places_304 ci_0 ?_
                                      obtain rfl := si1 hF
                                      refine kb_first ?_
                                      exact hret _ _ rfl dL_places_305
                                    · replace hF := (if_neg q885).symm.trans hF
                                      refine kw_aload_n X dL_places_254 rfl 0 rfl ?_
                                      refine kw_iload X dL_places_255 10 rfl ?_
                                      refine kw_iconst X dL_places_257 ci_2 ?_
                                      obtain ⟨b886, hx886, hF⟩ := ob1_ex hF
                                      refine kb_ap X (r := .int b886) (As := [.int b875, .int 2]) (st := []) (cm_umbrella l D cI cC cR h0 h1 t0 t1 a b d ah v b875 2 b886 hx886) vl_L_15 yv_X6_umbrella ⟨Nat.le_of_ble_eq_true rfl, Nat.le_of_ble_eq_true rfl⟩ ⟨rfl, rfl⟩ ⟨Nat.le_of_ble_eq_true rfl, Nat.le_of_ble_eq_true rfl⟩ 0 0 rfl bO_0 rfl rfl rfl (Nat.le_of_ble_eq_true rfl) dL_places_258 ?_
                                      refine kw_iload X dL_places_261 9 rfl ?_
                                      refine kw_icmp_ne X 273 dL_places_263 (by decide) (fun q887 => ?_) (fun q887 => ?_)
                                      · replace hF := (if_neg q887).symm.trans hF
                                        refine kw_aload_n X dL_places_273 rfl 0 rfl ?_
                                        refine kw_iload X dL_places_274 11 rfl ?_
                                        refine kw_iconst X dL_places_276 ci_2 ?_
                                        obtain ⟨b888, hx888, hF⟩ := ob1_ex hF
                                        refine kb_ap X (r := .int b888) (As := [.int b876, .int 2]) (st := []) (cm_umbrella l D cI cC cR h0 h1 t0 t1 a b d ah v b876 2 b888 hx888) vl_L_15 yv_X6_umbrella ⟨Nat.le_of_ble_eq_true rfl, Nat.le_of_ble_eq_true rfl⟩ ⟨rfl, rfl⟩ ⟨Nat.le_of_ble_eq_true rfl, Nat.le_of_ble_eq_true rfl⟩ 0 0 rfl bO_0 rfl rfl rfl (Nat.le_of_ble_eq_true rfl) dL_places_277 ?_
                                        refine kw_iload X dL_places_280 9 rfl ?_
                                        refine kw_icmp_lt X 304 dL_places_282 (by decide) (fun q889 => ?_) (fun q889 => ?_)
                                        · replace hF := (if_pos q889).symm.trans hF
                                          refine kw_iconst X dL_places_304 ci_0 ?_
                                          obtain rfl := si1 hF
                                          refine kb_first ?_
                                          exact hret _ _ rfl dL_places_305
                                        · replace hF := (if_neg q889).symm.trans hF
                                          refine kw_aload_n X dL_places_285 rfl 0 rfl ?_
                                          refine kw_iload X dL_places_286 11 rfl ?_
                                          refine kw_iconst X dL_places_288 ci_2 ?_
                                          obtain ⟨b890, hx890, hF⟩ := ob1_ex hF
                                          refine kb_ap X (r := .int b890) (As := [.int b876, .int 2]) (st := []) (cm_umbrella l D cI cC cR h0 h1 t0 t1 a b d ah v b876 2 b890 hx890) vl_L_15 yv_X6_umbrella ⟨Nat.le_of_ble_eq_true rfl, Nat.le_of_ble_eq_true rfl⟩ ⟨rfl, rfl⟩ ⟨Nat.le_of_ble_eq_true rfl, Nat.le_of_ble_eq_true rfl⟩ 0 0 rfl bO_0 rfl rfl rfl (Nat.le_of_ble_eq_true rfl) dL_places_289 ?_
                                          refine kw_iload X dL_places_292 9 rfl ?_
                                          refine kw_icmp_ne X 306 dL_places_294 (by decide) (fun q891 => ?_) (fun q891 => ?_)
                                          · replace hF := (if_neg q891).symm.trans hF
                                            refine kw_iinc (lo' := [(0, .ref h0), (1, .int b1), (2, .int (v2_657 + x851)), (3, .int (v3_658 + b848)), (4, .ref q2), (5, .ref q3), (6, .int (v6_659 + 1)), (7, .int b843), (8, .int b844), (9, .int b845), (10, .int b875), (11, .int b876)]) X dL_places_306 6 rfl (congrArg (fun w => v6_659 + w) ci_1) (by decide) [1, 2, 3, 4, 5, 6, 0, 7, 8, 9, 10, 11] rfl ?_
                                            refine kw_goto X 24 dL_places_309 (by decide) ?_
                                            refine kw_loc (lo' := [(0, .ref h0), (1, .int b1), (2, .int (v2_657 + x851)), (3, .int (v3_658 + b848)), (4, .ref q2), (5, .ref q3), (6, .int (v6_659 + 1))]) [0, 1, 2, 3, 4, 5, 6] rfl ?_
                                            exact ih24 _ _ _ _ _ hF
                                          · replace hF := (if_pos q891).symm.trans hF
                                            refine kw_iload X dL_places_297 11 rfl ?_
                                            refine kw_iload X dL_places_299 6 rfl ?_
                                            refine kw_icmp_le X 306 dL_places_301 (by decide) (fun q892 => ?_) (fun q892 => ?_)
                                            · replace hF := (if_neg q892).symm.trans hF
                                              refine kw_iinc (lo' := [(0, .ref h0), (1, .int b1), (2, .int (v2_657 + x851)), (3, .int (v3_658 + b848)), (4, .ref q2), (5, .ref q3), (6, .int (v6_659 + 1)), (7, .int b843), (8, .int b844), (9, .int b845), (10, .int b875), (11, .int b876)]) X dL_places_306 6 rfl (congrArg (fun w => v6_659 + w) ci_1) (by decide) [1, 2, 3, 4, 5, 6, 0, 7, 8, 9, 10, 11] rfl ?_
                                              refine kw_goto X 24 dL_places_309 (by decide) ?_
                                              refine kw_loc (lo' := [(0, .ref h0), (1, .int b1), (2, .int (v2_657 + x851)), (3, .int (v3_658 + b848)), (4, .ref q2), (5, .ref q3), (6, .int (v6_659 + 1))]) [0, 1, 2, 3, 4, 5, 6] rfl ?_
                                              exact ih24 _ _ _ _ _ hF
                                            · replace hF := (if_pos q892).symm.trans hF
                                              refine kw_iconst X dL_places_304 ci_0 ?_
                                              obtain rfl := si1 hF
                                              refine kb_first ?_
                                              exact hret _ _ rfl dL_places_305
                                      · replace hF := (if_pos q887).symm.trans hF
                                        refine kw_iload X dL_places_266 10 rfl ?_
                                        refine kw_iload X dL_places_268 6 rfl ?_
                                        refine kw_icmp_gt X 304 dL_places_270 (by decide) (fun q893 => ?_) (fun q893 => ?_)
                                        · replace hF := (if_pos q893).symm.trans hF
                                          refine kw_iconst X dL_places_304 ci_0 ?_
                                          obtain rfl := si1 hF
                                          refine kb_first ?_
                                          exact hret _ _ rfl dL_places_305
                                        · replace hF := (if_neg q893).symm.trans hF
                                          refine kw_aload_n X dL_places_273 rfl 0 rfl ?_
                                          refine kw_iload X dL_places_274 11 rfl ?_
                                          refine kw_iconst X dL_places_276 ci_2 ?_
                                          obtain ⟨b894, hx894, hF⟩ := ob1_ex hF
                                          refine kb_ap X (r := .int b894) (As := [.int b876, .int 2]) (st := []) (cm_umbrella l D cI cC cR h0 h1 t0 t1 a b d ah v b876 2 b894 hx894) vl_L_15 yv_X6_umbrella ⟨Nat.le_of_ble_eq_true rfl, Nat.le_of_ble_eq_true rfl⟩ ⟨rfl, rfl⟩ ⟨Nat.le_of_ble_eq_true rfl, Nat.le_of_ble_eq_true rfl⟩ 0 0 rfl bO_0 rfl rfl rfl (Nat.le_of_ble_eq_true rfl) dL_places_277 ?_
                                          refine kw_iload X dL_places_280 9 rfl ?_
                                          refine kw_icmp_lt X 304 dL_places_282 (by decide) (fun q895 => ?_) (fun q895 => ?_)
                                          · replace hF := (if_pos q895).symm.trans hF
                                            refine kw_iconst X dL_places_304 ci_0 ?_
                                            obtain rfl := si1 hF
                                            refine kb_first ?_
                                            exact hret _ _ rfl dL_places_305
                                          · replace hF := (if_neg q895).symm.trans hF
                                            refine kw_aload_n X dL_places_285 rfl 0 rfl ?_
                                            refine kw_iload X dL_places_286 11 rfl ?_
                                            refine kw_iconst X dL_places_288 ci_2 ?_
                                            obtain ⟨b896, hx896, hF⟩ := ob1_ex hF
                                            refine kb_ap X (r := .int b896) (As := [.int b876, .int 2]) (st := []) (cm_umbrella l D cI cC cR h0 h1 t0 t1 a b d ah v b876 2 b896 hx896) vl_L_15 yv_X6_umbrella ⟨Nat.le_of_ble_eq_true rfl, Nat.le_of_ble_eq_true rfl⟩ ⟨rfl, rfl⟩ ⟨Nat.le_of_ble_eq_true rfl, Nat.le_of_ble_eq_true rfl⟩ 0 0 rfl bO_0 rfl rfl rfl (Nat.le_of_ble_eq_true rfl) dL_places_289 ?_
                                            refine kw_iload X dL_places_292 9 rfl ?_
                                            refine kw_icmp_ne X 306 dL_places_294 (by decide) (fun q897 => ?_) (fun q897 => ?_)
                                            · replace hF := (if_neg q897).symm.trans hF
                                              refine kw_iinc (lo' := [(0, .ref h0), (1, .int b1), (2, .int (v2_657 + x851)), (3, .int (v3_658 + b848)), (4, .ref q2), (5, .ref q3), (6, .int (v6_659 + 1)), (7, .int b843), (8, .int b844), (9, .int b845), (10, .int b875), (11, .int b876)]) X dL_places_306 6 rfl (congrArg (fun w => v6_659 + w) ci_1) (by decide) [1, 2, 3, 4, 5, 6, 0, 7, 8, 9, 10, 11] rfl ?_
                                              refine kw_goto X 24 dL_places_309 (by decide) ?_
                                              refine kw_loc (lo' := [(0, .ref h0), (1, .int b1), (2, .int (v2_657 + x851)), (3, .int (v3_658 + b848)), (4, .ref q2), (5, .ref q3), (6, .int (v6_659 + 1))]) [0, 1, 2, 3, 4, 5, 6] rfl ?_
                                              exact ih24 _ _ _ _ _ hF
                                            · replace hF := (if_pos q897).symm.trans hF
                                              refine kw_iload X dL_places_297 11 rfl ?_
                                              refine kw_iload X dL_places_299 6 rfl ?_
                                              refine kw_icmp_le X 306 dL_places_301 (by decide) (fun q898 => ?_) (fun q898 => ?_)
                                              · replace hF := (if_neg q898).symm.trans hF
                                                refine kw_iinc (lo' := [(0, .ref h0), (1, .int b1), (2, .int (v2_657 + x851)), (3, .int (v3_658 + b848)), (4, .ref q2), (5, .ref q3), (6, .int (v6_659 + 1)), (7, .int b843), (8, .int b844), (9, .int b845), (10, .int b875), (11, .int b876)]) X dL_places_306 6 rfl (congrArg (fun w => v6_659 + w) ci_1) (by decide) [1, 2, 3, 4, 5, 6, 0, 7, 8, 9, 10, 11] rfl ?_
                                                refine kw_goto X 24 dL_places_309 (by decide) ?_
                                                refine kw_loc (lo' := [(0, .ref h0), (1, .int b1), (2, .int (v2_657 + x851)), (3, .int (v3_658 + b848)), (4, .ref q2), (5, .ref q3), (6, .int (v6_659 + 1))]) [0, 1, 2, 3, 4, 5, 6] rfl ?_
                                                exact ih24 _ _ _ _ _ hF
                                              · replace hF := (if_pos q898).symm.trans hF
                                                refine kw_iconst X dL_places_304 ci_0 ?_
                                                obtain rfl := si1 hF
                                                refine kb_first ?_
                                                exact hret _ _ rfl dL_places_305
                            · replace hF := (if_pos q871).symm.trans hF
                              refine kw_iload X dL_places_189 9 rfl ?_
                              refine kw_bipush X dL_places_191 cb_32 ?_
                              refine kw_icmp_ge X 198 dL_places_193 (by decide) (fun q899 => ?_) (fun q899 => ?_)
                              · replace hF := (if_neg q899).symm.trans hF
                                refine kw_iload X dL_places_198 7 rfl ?_
                                refine kw_if_ne X 306 dL_places_200 (by decide) (fun q900 => ?_) (fun q900 => ?_)
                                · replace hF := (if_neg q900).symm.trans hF
                                  refine kw_iinc (lo' := [(0, .ref h0), (1, .int b1), (2, .int (v2_657 + x851)), (3, .int (v3_658 + b848)), (4, .ref q2), (5, .ref q3), (6, .int (v6_659 + 1)), (7, .int b843), (8, .int b844), (9, .int b845)]) X dL_places_306 6 rfl (congrArg (fun w => v6_659 + w) ci_1) (by decide) [1, 2, 3, 4, 5, 6, 0, 7, 8, 9] rfl ?_
                                  refine kw_goto X 24 dL_places_309 (by decide) ?_
                                  refine kw_loc (lo' := [(0, .ref h0), (1, .int b1), (2, .int (v2_657 + x851)), (3, .int (v3_658 + b848)), (4, .ref q2), (5, .ref q3), (6, .int (v6_659 + 1))]) [0, 1, 2, 3, 4, 5, 6] rfl ?_
                                  exact ih24 _ _ _ _ _ hF
                                · replace hF := (if_pos q900).symm.trans hF
                                  refine kw_aload X dL_places_203 5 rfl ?_
                                  refine kw_iload X dL_places_205 8 rfl ?_
                                  refine kw_dup2 X dL_places_207 rfl rfl ?_
                                  obtain ⟨a901, hx, hF⟩ := ob1_ex hF
                                  obtain ⟨hin, hx⟩ := aget_ex hx
                                  refine kb_iald X 2 0 0 rfl rfl rfl hin hx dL_places_208 ?_
                                  refine kw_iconst X dL_places_209 ci_1 ?_
                                  refine kw_iadd X dL_places_210 ?_
                                  obtain ⟨m902, hx, hF⟩ := ob1_ex hF
                                  obtain ⟨hin, hx⟩ := aset_ex hx
                                  refine kb_iast X (bs' := [bO cI cC cR h0 h1 t0 t1 a b d ah v, [(q2, .inl (cI, 5, .inl m847))], [(q3, .inl (cI, 8, .inl m902))]]) E 2 0 0 rfl rfl rfl hin (by rw [hx]; rfl) dL_places_211 ?_
                                  refine kw_aload_n X dL_places_212 rfl 0 rfl ?_
                                  refine kw_iload X dL_places_213 8 rfl ?_
                                  refine kw_iconst X dL_places_215 ci_3 ?_
                                  obtain ⟨b903, hx903, hF⟩ := ob1_ex hF
                                  refine kb_ap X (r := .int b903) (As := [.int b844, .int 3]) (st := []) (cm_stand l D cI cC cR h0 h1 t0 t1 a b d ah v b844 3 Z b903 hx903) vl_L_24 yv_X6_stand ⟨Nat.le_of_ble_eq_true rfl, Nat.le_of_ble_eq_true rfl⟩ ⟨rfl, rfl⟩ ⟨Nat.le_of_ble_eq_true rfl, Nat.le_of_ble_eq_true rfl⟩ 0 0 rfl bO_0 rfl rfl rfl (Nat.le_of_ble_eq_true rfl) dL_places_216 ?_
                                  refine kw_istore (lo' := [(0, .ref h0), (1, .int b1), (2, .int (v2_657 + x851)), (3, .int (v3_658 + b848)), (4, .ref q2), (5, .ref q3), (6, .int v6_659), (7, .int b843), (8, .int b844), (9, .int b845), (10, .int b903)]) X dL_places_219 (by decide) [1, 2, 3, 4, 5, 6, 7, 8, 9, 10, 0] rfl ?_
                                  refine kw_aload_n X dL_places_221 rfl 0 rfl ?_
                                  refine kw_iload X dL_places_222 8 rfl ?_
                                  refine kw_iconst X dL_places_224 ci_4 ?_
                                  obtain ⟨b904, hx904, hF⟩ := ob1_ex hF
                                  refine kb_ap X (r := .int b904) (As := [.int b844, .int 4]) (st := []) (cm_stand l D cI cC cR h0 h1 t0 t1 a b d ah v b844 4 Z b904 hx904) vl_L_24 yv_X6_stand ⟨Nat.le_of_ble_eq_true rfl, Nat.le_of_ble_eq_true rfl⟩ ⟨rfl, rfl⟩ ⟨Nat.le_of_ble_eq_true rfl, Nat.le_of_ble_eq_true rfl⟩ 0 0 rfl bO_0 rfl rfl rfl (Nat.le_of_ble_eq_true rfl) dL_places_225 ?_
                                  refine kw_istore (lo' := [(0, .ref h0), (1, .int b1), (2, .int (v2_657 + x851)), (3, .int (v3_658 + b848)), (4, .ref q2), (5, .ref q3), (6, .int v6_659), (7, .int b843), (8, .int b844), (9, .int b845), (10, .int b903), (11, .int b904)]) X dL_places_228 (by decide) [1, 2, 3, 4, 5, 6, 7, 8, 9, 10, 11, 0] rfl ?_
                                  refine kw_iload X dL_places_230 9 rfl ?_
                                  refine kw_bipush X dL_places_232 cb_32 ?_
                                  refine kw_icmp_ge X 273 dL_places_234 (by decide) (fun q905 => ?_) (fun q905 => ?_)
                                  · replace hF := (if_neg q905).symm.trans hF
                                    refine kw_aload_n X dL_places_273 rfl 0 rfl ?_
                                    refine kw_iload X dL_places_274 11 rfl ?_
                                    refine kw_iconst X dL_places_276 ci_2 ?_
                                    obtain ⟨b906, hx906, hF⟩ := ob1_ex hF
                                    refine kb_ap X (r := .int b906) (As := [.int b904, .int 2]) (st := []) (cm_umbrella l D cI cC cR h0 h1 t0 t1 a b d ah v b904 2 b906 hx906) vl_L_15 yv_X6_umbrella ⟨Nat.le_of_ble_eq_true rfl, Nat.le_of_ble_eq_true rfl⟩ ⟨rfl, rfl⟩ ⟨Nat.le_of_ble_eq_true rfl, Nat.le_of_ble_eq_true rfl⟩ 0 0 rfl bO_0 rfl rfl rfl (Nat.le_of_ble_eq_true rfl) dL_places_277 ?_
                                    refine kw_iload X dL_places_280 9 rfl ?_
                                    refine kw_icmp_lt X 304 dL_places_282 (by decide) (fun q907 => ?_) (fun q907 => ?_)
                                    · replace hF := (if_pos q907).symm.trans hF
                                      refine kw_iconst X dL_places_304 ci_0 ?_
                                      obtain rfl := si1 hF
                                      refine kb_first ?_
                                      exact hret _ _ rfl dL_places_305
                                    · replace hF := (if_neg q907).symm.trans hF
                                      refine kw_aload_n X dL_places_285 rfl 0 rfl ?_
                                      refine kw_iload X dL_places_286 11 rfl ?_
                                      refine kw_iconst X dL_places_288 ci_2 ?_
                                      obtain ⟨b908, hx908, hF⟩ := ob1_ex hF
                                      refine kb_ap X (r := .int b908) (As := [.int b904, .int 2]) (st := []) (cm_umbrella l D cI cC cR h0 h1 t0 t1 a b d ah v b904 2 b908 hx908) vl_L_15 yv_X6_umbrella ⟨Nat.le_of_ble_eq_true rfl, Nat.le_of_ble_eq_true rfl⟩ ⟨rfl, rfl⟩ ⟨Nat.le_of_ble_eq_true rfl, Nat.le_of_ble_eq_true rfl⟩ 0 0 rfl bO_0 rfl rfl rfl (Nat.le_of_ble_eq_true rfl) dL_places_289 ?_
                                      refine kw_iload X dL_places_292 9 rfl ?_
                                      refine kw_icmp_ne X 306 dL_places_294 (by decide) (fun q909 => ?_) (fun q909 => ?_)
                                      · replace hF := (if_neg q909).symm.trans hF
                                        refine kw_iinc (lo' := [(0, .ref h0), (1, .int b1), (2, .int (v2_657 + x851)), (3, .int (v3_658 + b848)), (4, .ref q2), (5, .ref q3), (6, .int (v6_659 + 1)), (7, .int b843), (8, .int b844), (9, .int b845), (10, .int b903), (11, .int b904)]) X dL_places_306 6 rfl (congrArg (fun w => v6_659 + w) ci_1) (by decide) [1, 2, 3, 4, 5, 6, 0, 7, 8, 9, 10, 11] rfl ?_
                                        refine kw_goto X 24 dL_places_309 (by decide) ?_
                                        refine kw_loc (lo' := [(0, .ref h0), (1, .int b1), (2, .int (v2_657 + x851)), (3, .int (v3_658 + b848)), (4, .ref q2), (5, .ref q3), (6, .int (v6_659 + 1))]) [0, 1, 2, 3, 4, 5, 6] rfl ?_
                                        exact ih24 _ _ _ _ _ hF
                                      · replace hF := (if_pos q909).symm.trans hF
                                        refine kw_iload X dL_places_297 11 rfl ?_
                                        refine kw_iload X dL_places_299 6 rfl ?_
                                        refine kw_icmp_le X 306 dL_places_301 (by decide) (fun q910 => ?_) (fun q910 => ?_)
                                        · replace hF := (if_neg q910).symm.trans hF
                                          refine kw_iinc (lo' := [(0, .ref h0), (1, .int b1), (2, .int (v2_657 + x851)), (3, .int (v3_658 + b848)), (4, .ref q2), (5, .ref q3), (6, .int (v6_659 + 1)), (7, .int b843), (8, .int b844), (9, .int b845), (10, .int b903), (11, .int b904)]) X dL_places_306 6 rfl (congrArg (fun w => v6_659 + w) ci_1) (by decide) [1, 2, 3, 4, 5, 6, 0, 7, 8, 9, 10, 11] rfl ?_
                                          refine kw_goto X 24 dL_places_309 (by decide) ?_
                                          refine kw_loc (lo' := [(0, .ref h0), (1, .int b1), (2, .int (v2_657 + x851)), (3, .int (v3_658 + b848)), (4, .ref q2), (5, .ref q3), (6, .int (v6_659 + 1))]) [0, 1, 2, 3, 4, 5, 6] rfl ?_
                                          exact ih24 _ _ _ _ _ hF
                                        · replace hF := (if_pos q910).symm.trans hF
                                          refine kw_iconst X dL_places_304 ci_0 ?_
                                          obtain rfl := si1 hF
                                          refine kb_first ?_
                                          exact hret _ _ rfl dL_places_305
                                  · replace hF := (if_pos q905).symm.trans hF
                                    refine kw_iload X dL_places_237 10 rfl ?_
                                    refine kw_if_lt X 304 dL_places_239 (by decide) (fun q911 => ?_) (fun q911 => ?_)
                                    · replace hF := (if_pos q911).symm.trans hF
                                      refine kw_iconst X dL_places_304 ci_0 ?_
                                      obtain rfl := si1 hF
                                      refine kb_first ?_
                                      exact hret _ _ rfl dL_places_305
                                    · replace hF := (if_neg q911).symm.trans hF
                                      refine kw_aload_n X dL_places_242 rfl 0 rfl ?_
                                      refine kw_iload X dL_places_243 10 rfl ?_
                                      refine kw_iconst X dL_places_245 ci_2 ?_
                                      obtain ⟨b912, hx912, hF⟩ := ob1_ex hF
                                      refine kb_ap X (r := .int b912) (As := [.int b903, .int 2]) (st := []) (cm_umbrella l D cI cC cR h0 h1 t0 t1 a b d ah v b903 2 b912 hx912) vl_L_15 yv_X6_umbrella ⟨Nat.le_of_ble_eq_true rfl, Nat.le_of_ble_eq_true rfl⟩ ⟨rfl, rfl⟩ ⟨Nat.le_of_ble_eq_true rfl, Nat.le_of_ble_eq_true rfl⟩ 0 0 rfl bO_0 rfl rfl rfl (Nat.le_of_ble_eq_true rfl) dL_places_246 ?_
                                      refine kw_iload X dL_places_249 9 rfl ?_
                                      refine kw_icmp_gt X 304 dL_places_251 (by decide) (fun q913 => ?_) (fun q913 => ?_)
                                      · replace hF := (if_pos q913).symm.trans hF
                                        refine kw_iconst X dL_places_304 ci_0 ?_
                                        obtain rfl := si1 hF
                                        refine kb_first ?_
                                        exact hret _ _ rfl dL_places_305
                                      · replace hF := (if_neg q913).symm.trans hF
                                        refine kw_aload_n X dL_places_254 rfl 0 rfl ?_
                                        refine kw_iload X dL_places_255 10 rfl ?_
                                        refine kw_iconst X dL_places_257 ci_2 ?_
                                        obtain ⟨b914, hx914, hF⟩ := ob1_ex hF
                                        refine kb_ap X (r := .int b914) (As := [.int b903, .int 2]) (st := []) (cm_umbrella l D cI cC cR h0 h1 t0 t1 a b d ah v b903 2 b914 hx914) vl_L_15 yv_X6_umbrella ⟨Nat.le_of_ble_eq_true rfl, Nat.le_of_ble_eq_true rfl⟩ ⟨rfl, rfl⟩ ⟨Nat.le_of_ble_eq_true rfl, Nat.le_of_ble_eq_true rfl⟩ 0 0 rfl bO_0 rfl rfl rfl (Nat.le_of_ble_eq_true rfl) dL_places_258 ?_
                                        refine kw_iload X dL_places_261 9 rfl ?_
                                        refine kw_icmp_ne X 273 dL_places_263 (by decide) (fun q915 => ?_) (fun q915 => ?_)
                                        · replace hF := (if_neg q915).symm.trans hF
                                          refine kw_aload_n X dL_places_273 rfl 0 rfl ?_
                                          refine kw_iload X dL_places_274 11 rfl ?_
                                          refine kw_iconst X dL_places_276 ci_2 ?_
                                          obtain ⟨b916, hx916, hF⟩ := ob1_ex hF
                                          refine kb_ap X (r := .int b916) (As := [.int b904, .int 2]) (st := []) (cm_umbrella l D cI cC cR h0 h1 t0 t1 a b d ah v b904 2 b916 hx916) vl_L_15 yv_X6_umbrella ⟨Nat.le_of_ble_eq_true rfl, Nat.le_of_ble_eq_true rfl⟩ ⟨rfl, rfl⟩ ⟨Nat.le_of_ble_eq_true rfl, Nat.le_of_ble_eq_true rfl⟩ 0 0 rfl bO_0 rfl rfl rfl (Nat.le_of_ble_eq_true rfl) dL_places_277 ?_
                                          refine kw_iload X dL_places_280 9 rfl ?_
                                          refine kw_icmp_lt X 304 dL_places_282 (by decide) (fun q917 => ?_) (fun q917 => ?_)
                                          · replace hF := (if_pos q917).symm.trans hF
                                            refine kw_iconst X dL_places_304 ci_0 ?_
                                            obtain rfl := si1 hF
                                            refine kb_first ?_
                                            exact hret _ _ rfl dL_places_305
                                          · replace hF := (if_neg q917).symm.trans hF
                                            refine kw_aload_n X dL_places_285 rfl 0 rfl ?_
                                            refine kw_iload X dL_places_286 11 rfl ?_
                                            refine kw_iconst X dL_places_288 ci_2 ?_
                                            obtain ⟨b918, hx918, hF⟩ := ob1_ex hF
                                            refine kb_ap X (r := .int b918) (As := [.int b904, .int 2]) (st := []) (cm_umbrella l D cI cC cR h0 h1 t0 t1 a b d ah v b904 2 b918 hx918) vl_L_15 yv_X6_umbrella ⟨Nat.le_of_ble_eq_true rfl, Nat.le_of_ble_eq_true rfl⟩ ⟨rfl, rfl⟩ ⟨Nat.le_of_ble_eq_true rfl, Nat.le_of_ble_eq_true rfl⟩ 0 0 rfl bO_0 rfl rfl rfl (Nat.le_of_ble_eq_true rfl) dL_places_289 ?_
                                            refine kw_iload X dL_places_292 9 rfl ?_
                                            refine kw_icmp_ne X 306 dL_places_294 (by decide) (fun q919 => ?_) (fun q919 => ?_)
                                            · replace hF := (if_neg q919).symm.trans hF
                                              refine kw_iinc (lo' := [(0, .ref h0), (1, .int b1), (2, .int (v2_657 + x851)), (3, .int (v3_658 + b848)), (4, .ref q2), (5, .ref q3), (6, .int (v6_659 + 1)), (7, .int b843), (8, .int b844), (9, .int b845), (10, .int b903), (11, .int b904)]) X dL_places_306 6 rfl (congrArg (fun w => v6_659 + w) ci_1) (by decide) [1, 2, 3, 4, 5, 6, 0, 7, 8, 9, 10, 11] rfl ?_
                                              refine kw_goto X 24 dL_places_309 (by decide) ?_
                                              refine kw_loc (lo' := [(0, .ref h0), (1, .int b1), (2, .int (v2_657 + x851)), (3, .int (v3_658 + b848)), (4, .ref q2), (5, .ref q3), (6, .int (v6_659 + 1))]) [0, 1, 2, 3, 4, 5, 6] rfl ?_
                                              exact ih24 _ _ _ _ _ hF
                                            · replace hF := (if_pos q919).symm.trans hF
                                              refine kw_iload X dL_places_297 11 rfl ?_
                                              refine kw_iload X dL_places_299 6 rfl ?_
                                              refine kw_icmp_le X 306 dL_places_301 (by decide) (fun q920 => ?_) (fun q920 => ?_)
                                              · replace hF := (if_neg q920).symm.trans hF
                                                refine kw_iinc (lo' := [(0, .ref h0), (1, .int b1), (2, .int (v2_657 + x851)), (3, .int (v3_658 + b848)), (4, .ref q2), (5, .ref q3), (6, .int (v6_659 + 1)), (7, .int b843), (8, .int b844), (9, .int b845), (10, .int b903), (11, .int b904)]) X dL_places_306 6 rfl (congrArg (fun w => v6_659 + w) ci_1) (by decide) [1, 2, 3, 4, 5, 6, 0, 7, 8, 9, 10, 11] rfl ?_
                                                refine kw_goto X 24 dL_places_309 (by decide) ?_
                                                refine kw_loc (lo' := [(0, .ref h0), (1, .int b1), (2, .int (v2_657 + x851)), (3, .int (v3_658 + b848)), (4, .ref q2), (5, .ref q3), (6, .int (v6_659 + 1))]) [0, 1, 2, 3, 4, 5, 6] rfl ?_
                                                exact ih24 _ _ _ _ _ hF
                                              · replace hF := (if_pos q920).symm.trans hF
                                                refine kw_iconst X dL_places_304 ci_0 ?_
                                                obtain rfl := si1 hF
                                                refine kb_first ?_
                                                exact hret _ _ rfl dL_places_305
                                        · replace hF := (if_pos q915).symm.trans hF
                                          refine kw_iload X dL_places_266 10 rfl ?_
                                          refine kw_iload X dL_places_268 6 rfl ?_
                                          refine kw_icmp_gt X 304 dL_places_270 (by decide) (fun q921 => ?_) (fun q921 => ?_)
                                          · replace hF := (if_pos q921).symm.trans hF
                                            refine kw_iconst X dL_places_304 ci_0 ?_
                                            obtain rfl := si1 hF
                                            refine kb_first ?_
                                            exact hret _ _ rfl dL_places_305
                                          · replace hF := (if_neg q921).symm.trans hF
                                            refine kw_aload_n X dL_places_273 rfl 0 rfl ?_
                                            refine kw_iload X dL_places_274 11 rfl ?_
                                            refine kw_iconst X dL_places_276 ci_2 ?_
                                            obtain ⟨b922, hx922, hF⟩ := ob1_ex hF
                                            refine kb_ap X (r := .int b922) (As := [.int b904, .int 2]) (st := []) (cm_umbrella l D cI cC cR h0 h1 t0 t1 a b d ah v b904 2 b922 hx922) vl_L_15 yv_X6_umbrella ⟨Nat.le_of_ble_eq_true rfl, Nat.le_of_ble_eq_true rfl⟩ ⟨rfl, rfl⟩ ⟨Nat.le_of_ble_eq_true rfl, Nat.le_of_ble_eq_true rfl⟩ 0 0 rfl bO_0 rfl rfl rfl (Nat.le_of_ble_eq_true rfl) dL_places_277 ?_
                                            refine kw_iload X dL_places_280 9 rfl ?_
                                            refine kw_icmp_lt X 304 dL_places_282 (by decide) (fun q923 => ?_) (fun q923 => ?_)
                                            · replace hF := (if_pos q923).symm.trans hF
                                              refine kw_iconst X dL_places_304 ci_0 ?_
                                              obtain rfl := si1 hF
                                              refine kb_first ?_
                                              exact hret _ _ rfl dL_places_305
                                            · replace hF := (if_neg q923).symm.trans hF
                                              refine kw_aload_n X dL_places_285 rfl 0 rfl ?_
                                              refine kw_iload X dL_places_286 11 rfl ?_
                                              refine kw_iconst X dL_places_288 ci_2 ?_
                                              obtain ⟨b924, hx924, hF⟩ := ob1_ex hF
                                              refine kb_ap X (r := .int b924) (As := [.int b904, .int 2]) (st := []) (cm_umbrella l D cI cC cR h0 h1 t0 t1 a b d ah v b904 2 b924 hx924) vl_L_15 yv_X6_umbrella ⟨Nat.le_of_ble_eq_true rfl, Nat.le_of_ble_eq_true rfl⟩ ⟨rfl, rfl⟩ ⟨Nat.le_of_ble_eq_true rfl, Nat.le_of_ble_eq_true rfl⟩ 0 0 rfl bO_0 rfl rfl rfl (Nat.le_of_ble_eq_true rfl) dL_places_289 ?_
                                              refine kw_iload X dL_places_292 9 rfl ?_
                                              refine kw_icmp_ne X 306 dL_places_294 (by decide) (fun q925 => ?_) (fun q925 => ?_)
                                              · replace hF := (if_neg q925).symm.trans hF
                                                refine kw_iinc (lo' := [(0, .ref h0), (1, .int b1), (2, .int (v2_657 + x851)), (3, .int (v3_658 + b848)), (4, .ref q2), (5, .ref q3), (6, .int (v6_659 + 1)), (7, .int b843), (8, .int b844), (9, .int b845), (10, .int b903), (11, .int b904)]) X dL_places_306 6 rfl (congrArg (fun w => v6_659 + w) ci_1) (by decide) [1, 2, 3, 4, 5, 6, 0, 7, 8, 9, 10, 11] rfl ?_
                                                refine kw_goto X 24 dL_places_309 (by decide) ?_
                                                refine kw_loc (lo' := [(0, .ref h0), (1, .int b1), (2, .int (v2_657 + x851)), (3, .int (v3_658 + b848)), (4, .ref q2), (5, .ref q3), (6, .int (v6_659 + 1))]) [0, 1, 2, 3, 4, 5, 6] rfl ?_
                                                exact ih24 _ _ _ _ _ hF
                                              · replace hF := (if_pos q925).symm.trans hF
                                                refine kw_iload X dL_places_297 11 rfl ?_
                                                refine kw_iload X dL_places_299 6 rfl ?_
                                                refine kw_icmp_le X 306 dL_places_301 (by decide) (fun q926 => ?_) (fun q926 => ?_)
                                                · replace hF := (if_neg q926).symm.trans hF
                                                  refine kw_iinc (lo' := [(0, .ref h0), (1, .int b1), (2, .int (v2_657 + x851)), (3, .int (v3_658 + b848)), (4, .ref q2), (5, .ref q3), (6, .int (v6_659 + 1)), (7, .int b843), (8, .int b844), (9, .int b845), (10, .int b903), (11, .int b904)]) X dL_places_306 6 rfl (congrArg (fun w => v6_659 + w) ci_1) (by decide) [1, 2, 3, 4, 5, 6, 0, 7, 8, 9, 10, 11] rfl ?_
                                                  refine kw_goto X 24 dL_places_309 (by decide) ?_
                                                  refine kw_loc (lo' := [(0, .ref h0), (1, .int b1), (2, .int (v2_657 + x851)), (3, .int (v3_658 + b848)), (4, .ref q2), (5, .ref q3), (6, .int (v6_659 + 1))]) [0, 1, 2, 3, 4, 5, 6] rfl ?_
                                                  exact ih24 _ _ _ _ _ hF
                                                · replace hF := (if_pos q926).symm.trans hF
                                                  refine kw_iconst X dL_places_304 ci_0 ?_
                                                  obtain rfl := si1 hF
                                                  refine kb_first ?_
                                                  exact hret _ _ rfl dL_places_305
                              · replace hF := (if_pos q899).symm.trans hF
                                refine kw_iconst X dL_places_196 ci_0 ?_
                                obtain rfl := si1 hF
                                refine kb_first ?_
                                exact hret _ _ rfl dL_places_197
                          · replace hF := (if_pos q870).symm.trans hF
                            refine kw_aload_n X dL_places_171 rfl 0 rfl ?_
                            refine kw_iload X dL_places_172 8 rfl ?_
                            refine kw_iconst X dL_places_174 ci_1 ?_
                            obtain ⟨b927, hx927, hF⟩ := ob1_ex hF
                            refine kb_ap X (r := .int b927) (As := [.int b844, .int 1]) (st := []) (cm_person l D cI cC cR h0 h1 t0 t1 a b d ah v b844 1 Z b927 hx927) vl_L_21 yv_X6_person ⟨Nat.le_of_ble_eq_true rfl, Nat.le_of_ble_eq_true rfl⟩ ⟨rfl, rfl⟩ ⟨Nat.le_of_ble_eq_true rfl, Nat.le_of_ble_eq_true rfl⟩ 0 0 rfl bO_0 rfl rfl rfl (Nat.le_of_ble_eq_true rfl) dL_places_175 ?_
                            refine kw_iload X dL_places_178 6 rfl ?_
                            refine kw_icmp_ne X 196 dL_places_180 (by decide) (fun q928 => ?_) (fun q928 => ?_)
                            · replace hF := (if_neg q928).symm.trans hF
                              refine kw_iconst X dL_places_196 ci_0 ?_
                              obtain rfl := si1 hF
                              refine kb_first ?_
                              exact hret _ _ rfl dL_places_197
                            · replace hF := (if_pos q928).symm.trans hF
                              refine kw_iload X dL_places_183 7 rfl ?_
                              refine kw_iconst X dL_places_185 ci_3 ?_
                              refine kw_icmp_ne X 198 dL_places_186 (by decide) (fun q929 => ?_) (fun q929 => ?_)
                              · replace hF := (if_neg q929).symm.trans hF
                                refine kw_iload X dL_places_198 7 rfl ?_
                                refine kw_if_ne X 306 dL_places_200 (by decide) (fun q930 => ?_) (fun q930 => ?_)
                                · replace hF := (if_neg q930).symm.trans hF
                                  refine kw_iinc (lo' := [(0, .ref h0), (1, .int b1), (2, .int (v2_657 + x851)), (3, .int (v3_658 + b848)), (4, .ref q2), (5, .ref q3), (6, .int (v6_659 + 1)), (7, .int b843), (8, .int b844), (9, .int b845)]) X dL_places_306 6 rfl (congrArg (fun w => v6_659 + w) ci_1) (by decide) [1, 2, 3, 4, 5, 6, 0, 7, 8, 9] rfl ?_
                                  refine kw_goto X 24 dL_places_309 (by decide) ?_
                                  refine kw_loc (lo' := [(0, .ref h0), (1, .int b1), (2, .int (v2_657 + x851)), (3, .int (v3_658 + b848)), (4, .ref q2), (5, .ref q3), (6, .int (v6_659 + 1))]) [0, 1, 2, 3, 4, 5, 6] rfl ?_
                                  exact ih24 _ _ _ _ _ hF
                                · replace hF := (if_pos q930).symm.trans hF
                                  refine kw_aload X dL_places_203 5 rfl ?_
                                  refine kw_iload X dL_places_205 8 rfl ?_
                                  refine kw_dup2 X dL_places_207 rfl rfl ?_
                                  obtain ⟨a931, hx, hF⟩ := ob1_ex hF
                                  obtain ⟨hin, hx⟩ := aget_ex hx
                                  refine kb_iald X 2 0 0 rfl rfl rfl hin hx dL_places_208 ?_
                                  refine kw_iconst X dL_places_209 ci_1 ?_
                                  refine kw_iadd X dL_places_210 ?_
                                  obtain ⟨m932, hx, hF⟩ := ob1_ex hF
                                  obtain ⟨hin, hx⟩ := aset_ex hx
                                  refine kb_iast X (bs' := [bO cI cC cR h0 h1 t0 t1 a b d ah v, [(q2, .inl (cI, 5, .inl m847))], [(q3, .inl (cI, 8, .inl m932))]]) E 2 0 0 rfl rfl rfl hin (by rw [hx]; rfl) dL_places_211 ?_
                                  refine kw_aload_n X dL_places_212 rfl 0 rfl ?_
                                  refine kw_iload X dL_places_213 8 rfl ?_
                                  refine kw_iconst X dL_places_215 ci_3 ?_
                                  obtain ⟨b933, hx933, hF⟩ := ob1_ex hF
                                  refine kb_ap X (r := .int b933) (As := [.int b844, .int 3]) (st := []) (cm_stand l D cI cC cR h0 h1 t0 t1 a b d ah v b844 3 Z b933 hx933) vl_L_24 yv_X6_stand ⟨Nat.le_of_ble_eq_true rfl, Nat.le_of_ble_eq_true rfl⟩ ⟨rfl, rfl⟩ ⟨Nat.le_of_ble_eq_true rfl, Nat.le_of_ble_eq_true rfl⟩ 0 0 rfl bO_0 rfl rfl rfl (Nat.le_of_ble_eq_true rfl) dL_places_216 ?_
                                  refine kw_istore (lo' := [(0, .ref h0), (1, .int b1), (2, .int (v2_657 + x851)), (3, .int (v3_658 + b848)), (4, .ref q2), (5, .ref q3), (6, .int v6_659), (7, .int b843), (8, .int b844), (9, .int b845), (10, .int b933)]) X dL_places_219 (by decide) [1, 2, 3, 4, 5, 6, 7, 8, 9, 10, 0] rfl ?_
                                  refine kw_aload_n X dL_places_221 rfl 0 rfl ?_
                                  refine kw_iload X dL_places_222 8 rfl ?_
                                  refine kw_iconst X dL_places_224 ci_4 ?_
                                  obtain ⟨b934, hx934, hF⟩ := ob1_ex hF
                                  refine kb_ap X (r := .int b934) (As := [.int b844, .int 4]) (st := []) (cm_stand l D cI cC cR h0 h1 t0 t1 a b d ah v b844 4 Z b934 hx934) vl_L_24 yv_X6_stand ⟨Nat.le_of_ble_eq_true rfl, Nat.le_of_ble_eq_true rfl⟩ ⟨rfl, rfl⟩ ⟨Nat.le_of_ble_eq_true rfl, Nat.le_of_ble_eq_true rfl⟩ 0 0 rfl bO_0 rfl rfl rfl (Nat.le_of_ble_eq_true rfl) dL_places_225 ?_
                                  refine kw_istore (lo' := [(0, .ref h0), (1, .int b1), (2, .int (v2_657 + x851)), (3, .int (v3_658 + b848)), (4, .ref q2), (5, .ref q3), (6, .int v6_659), (7, .int b843), (8, .int b844), (9, .int b845), (10, .int b933), (11, .int b934)]) X dL_places_228 (by decide) [1, 2, 3, 4, 5, 6, 7, 8, 9, 10, 11, 0] rfl ?_
                                  refine kw_iload X dL_places_230 9 rfl ?_
                                  refine kw_bipush X dL_places_232 cb_32 ?_
                                  refine kw_icmp_ge X 273 dL_places_234 (by decide) (fun q935 => ?_) (fun q935 => ?_)
                                  · replace hF := (if_neg q935).symm.trans hF
                                    refine kw_aload_n X dL_places_273 rfl 0 rfl ?_
                                    refine kw_iload X dL_places_274 11 rfl ?_
                                    refine kw_iconst X dL_places_276 ci_2 ?_
                                    obtain ⟨b936, hx936, hF⟩ := ob1_ex hF
                                    refine kb_ap X (r := .int b936) (As := [.int b934, .int 2]) (st := []) (cm_umbrella l D cI cC cR h0 h1 t0 t1 a b d ah v b934 2 b936 hx936) vl_L_15 yv_X6_umbrella ⟨Nat.le_of_ble_eq_true rfl, Nat.le_of_ble_eq_true rfl⟩ ⟨rfl, rfl⟩ ⟨Nat.le_of_ble_eq_true rfl, Nat.le_of_ble_eq_true rfl⟩ 0 0 rfl bO_0 rfl rfl rfl (Nat.le_of_ble_eq_true rfl) dL_places_277 ?_
                                    refine kw_iload X dL_places_280 9 rfl ?_
                                    refine kw_icmp_lt X 304 dL_places_282 (by decide) (fun q937 => ?_) (fun q937 => ?_)
                                    · replace hF := (if_pos q937).symm.trans hF
                                      refine kw_iconst X dL_places_304 ci_0 ?_
                                      obtain rfl := si1 hF
                                      refine kb_first ?_
                                      exact hret _ _ rfl dL_places_305
                                    · replace hF := (if_neg q937).symm.trans hF
                                      refine kw_aload_n X dL_places_285 rfl 0 rfl ?_
                                      refine kw_iload X dL_places_286 11 rfl ?_
                                      refine kw_iconst X dL_places_288 ci_2 ?_
                                      obtain ⟨b938, hx938, hF⟩ := ob1_ex hF
                                      refine kb_ap X (r := .int b938) (As := [.int b934, .int 2]) (st := []) (cm_umbrella l D cI cC cR h0 h1 t0 t1 a b d ah v b934 2 b938 hx938) vl_L_15 yv_X6_umbrella ⟨Nat.le_of_ble_eq_true rfl, Nat.le_of_ble_eq_true rfl⟩ ⟨rfl, rfl⟩ ⟨Nat.le_of_ble_eq_true rfl, Nat.le_of_ble_eq_true rfl⟩ 0 0 rfl bO_0 rfl rfl rfl (Nat.le_of_ble_eq_true rfl) dL_places_289 ?_
                                      refine kw_iload X dL_places_292 9 rfl ?_
                                      refine kw_icmp_ne X 306 dL_places_294 (by decide) (fun q939 => ?_) (fun q939 => ?_)
                                      · replace hF := (if_neg q939).symm.trans hF
                                        refine kw_iinc (lo' := [(0, .ref h0), (1, .int b1), (2, .int (v2_657 + x851)), (3, .int (v3_658 + b848)), (4, .ref q2), (5, .ref q3), (6, .int (v6_659 + 1)), (7, .int b843), (8, .int b844), (9, .int b845), (10, .int b933), (11, .int b934)]) X dL_places_306 6 rfl (congrArg (fun w => v6_659 + w) ci_1) (by decide) [1, 2, 3, 4, 5, 6, 0, 7, 8, 9, 10, 11] rfl ?_
                                        refine kw_goto X 24 dL_places_309 (by decide) ?_
                                        refine kw_loc (lo' := [(0, .ref h0), (1, .int b1), (2, .int (v2_657 + x851)), (3, .int (v3_658 + b848)), (4, .ref q2), (5, .ref q3), (6, .int (v6_659 + 1))]) [0, 1, 2, 3, 4, 5, 6] rfl ?_
                                        exact ih24 _ _ _ _ _ hF
                                      · replace hF := (if_pos q939).symm.trans hF
                                        refine kw_iload X dL_places_297 11 rfl ?_
                                        refine kw_iload X dL_places_299 6 rfl ?_
                                        refine kw_icmp_le X 306 dL_places_301 (by decide) (fun q940 => ?_) (fun q940 => ?_)
                                        · replace hF := (if_neg q940).symm.trans hF
                                          refine kw_iinc (lo' := [(0, .ref h0), (1, .int b1), (2, .int (v2_657 + x851)), (3, .int (v3_658 + b848)), (4, .ref q2), (5, .ref q3), (6, .int (v6_659 + 1)), (7, .int b843), (8, .int b844), (9, .int b845), (10, .int b933), (11, .int b934)]) X dL_places_306 6 rfl (congrArg (fun w => v6_659 + w) ci_1) (by decide) [1, 2, 3, 4, 5, 6, 0, 7, 8, 9, 10, 11] rfl ?_
                                          refine kw_goto X 24 dL_places_309 (by decide) ?_
                                          refine kw_loc (lo' := [(0, .ref h0), (1, .int b1), (2, .int (v2_657 + x851)), (3, .int (v3_658 + b848)), (4, .ref q2), (5, .ref q3), (6, .int (v6_659 + 1))]) [0, 1, 2, 3, 4, 5, 6] rfl ?_
                                          exact ih24 _ _ _ _ _ hF
                                        · replace hF := (if_pos q940).symm.trans hF
                                          refine kw_iconst X dL_places_304 ci_0 ?_
                                          obtain rfl := si1 hF
                                          refine kb_first ?_
                                          exact hret _ _ rfl dL_places_305
                                  · replace hF := (if_pos q935).symm.trans hF
                                    refine kw_iload X dL_places_237 10 rfl ?_
                                    refine kw_if_lt X 304 dL_places_239 (by decide) (fun q941 => ?_) (fun q941 => ?_)
                                    · replace hF := (if_pos q941).symm.trans hF
                                      refine kw_iconst X dL_places_304 ci_0 ?_
                                      obtain rfl := si1 hF
                                      refine kb_first ?_
                                      exact hret _ _ rfl dL_places_305
                                    · replace hF := (if_neg q941).symm.trans hF
                                      refine kw_aload_n X dL_places_242 rfl 0 rfl ?_
                                      refine kw_iload X dL_places_243 10 rfl ?_
                                      refine kw_iconst X dL_places_245 ci_2 ?_
                                      obtain ⟨b942, hx942, hF⟩ := ob1_ex hF
                                      refine kb_ap X (r := .int b942) (As := [.int b933, .int 2]) (st := []) (cm_umbrella l D cI cC cR h0 h1 t0 t1 a b d ah v b933 2 b942 hx942) vl_L_15 yv_X6_umbrella ⟨Nat.le_of_ble_eq_true rfl, Nat.le_of_ble_eq_true rfl⟩ ⟨rfl, rfl⟩ ⟨Nat.le_of_ble_eq_true rfl, Nat.le_of_ble_eq_true rfl⟩ 0 0 rfl bO_0 rfl rfl rfl (Nat.le_of_ble_eq_true rfl) dL_places_246 ?_
                                      refine kw_iload X dL_places_249 9 rfl ?_
                                      refine kw_icmp_gt X 304 dL_places_251 (by decide) (fun q943 => ?_) (fun q943 => ?_)
                                      · replace hF := (if_pos q943).symm.trans hF
                                        refine kw_iconst X dL_places_304 ci_0 ?_
                                        obtain rfl := si1 hF
                                        refine kb_first ?_
                                        exact hret _ _ rfl dL_places_305
                                      · replace hF := (if_neg q943).symm.trans hF
                                        refine kw_aload_n X dL_places_254 rfl 0 rfl ?_
                                        refine kw_iload X dL_places_255 10 rfl ?_
                                        refine kw_iconst X dL_places_257 ci_2 ?_
                                        obtain ⟨b944, hx944, hF⟩ := ob1_ex hF
                                        refine kb_ap X (r := .int b944) (As := [.int b933, .int 2]) (st := []) (cm_umbrella l D cI cC cR h0 h1 t0 t1 a b d ah v b933 2 b944 hx944) vl_L_15 yv_X6_umbrella ⟨Nat.le_of_ble_eq_true rfl, Nat.le_of_ble_eq_true rfl⟩ ⟨rfl, rfl⟩ ⟨Nat.le_of_ble_eq_true rfl, Nat.le_of_ble_eq_true rfl⟩ 0 0 rfl bO_0 rfl rfl rfl (Nat.le_of_ble_eq_true rfl) dL_places_258 ?_
                                        refine kw_iload X dL_places_261 9 rfl ?_
                                        refine kw_icmp_ne X 273 dL_places_263 (by decide) (fun q945 => ?_) (fun q945 => ?_)
                                        · replace hF := (if_neg q945).symm.trans hF
                                          refine kw_aload_n X dL_places_273 rfl 0 rfl ?_
                                          refine kw_iload X dL_places_274 11 rfl ?_
                                          refine kw_iconst X dL_places_276 ci_2 ?_
                                          obtain ⟨b946, hx946, hF⟩ := ob1_ex hF
                                          refine kb_ap X (r := .int b946) (As := [.int b934, .int 2]) (st := []) (cm_umbrella l D cI cC cR h0 h1 t0 t1 a b d ah v b934 2 b946 hx946) vl_L_15 yv_X6_umbrella ⟨Nat.le_of_ble_eq_true rfl, Nat.le_of_ble_eq_true rfl⟩ ⟨rfl, rfl⟩ ⟨Nat.le_of_ble_eq_true rfl, Nat.le_of_ble_eq_true rfl⟩ 0 0 rfl bO_0 rfl rfl rfl (Nat.le_of_ble_eq_true rfl) dL_places_277 ?_
                                          refine kw_iload X dL_places_280 9 rfl ?_
                                          refine kw_icmp_lt X 304 dL_places_282 (by decide) (fun q947 => ?_) (fun q947 => ?_)
                                          · replace hF := (if_pos q947).symm.trans hF
                                            refine kw_iconst X dL_places_304 ci_0 ?_
                                            obtain rfl := si1 hF
                                            refine kb_first ?_
                                            exact hret _ _ rfl dL_places_305
                                          · replace hF := (if_neg q947).symm.trans hF
                                            refine kw_aload_n X dL_places_285 rfl 0 rfl ?_
                                            refine kw_iload X dL_places_286 11 rfl ?_
                                            refine kw_iconst X dL_places_288 ci_2 ?_
                                            obtain ⟨b948, hx948, hF⟩ := ob1_ex hF
                                            refine kb_ap X (r := .int b948) (As := [.int b934, .int 2]) (st := []) (cm_umbrella l D cI cC cR h0 h1 t0 t1 a b d ah v b934 2 b948 hx948) vl_L_15 yv_X6_umbrella ⟨Nat.le_of_ble_eq_true rfl, Nat.le_of_ble_eq_true rfl⟩ ⟨rfl, rfl⟩ ⟨Nat.le_of_ble_eq_true rfl, Nat.le_of_ble_eq_true rfl⟩ 0 0 rfl bO_0 rfl rfl rfl (Nat.le_of_ble_eq_true rfl) dL_places_289 ?_
                                            refine kw_iload X dL_places_292 9 rfl ?_
                                            refine kw_icmp_ne X 306 dL_places_294 (by decide) (fun q949 => ?_) (fun q949 => ?_)
                                            · replace hF := (if_neg q949).symm.trans hF
                                              refine kw_iinc (lo' := [(0, .ref h0), (1, .int b1), (2, .int (v2_657 + x851)), (3, .int (v3_658 + b848)), (4, .ref q2), (5, .ref q3), (6, .int (v6_659 + 1)), (7, .int b843), (8, .int b844), (9, .int b845), (10, .int b933), (11, .int b934)]) X dL_places_306 6 rfl (congrArg (fun w => v6_659 + w) ci_1) (by decide) [1, 2, 3, 4, 5, 6, 0, 7, 8, 9, 10, 11] rfl ?_
                                              refine kw_goto X 24 dL_places_309 (by decide) ?_
                                              refine kw_loc (lo' := [(0, .ref h0), (1, .int b1), (2, .int (v2_657 + x851)), (3, .int (v3_658 + b848)), (4, .ref q2), (5, .ref q3), (6, .int (v6_659 + 1))]) [0, 1, 2, 3, 4, 5, 6] rfl ?_
                                              exact ih24 _ _ _ _ _ hF
                                            · replace hF := (if_pos q949).symm.trans hF
                                              refine kw_iload X dL_places_297 11 rfl ?_
                                              refine kw_iload X dL_places_299 6 rfl ?_
                                              refine kw_icmp_le X 306 dL_places_301 (by decide) (fun q950 => ?_) (fun q950 => ?_)
                                              · replace hF := (if_neg q950).symm.trans hF
                                                refine kw_iinc (lo' := [(0, .ref h0), (1, .int b1), (2, .int (v2_657 + x851)), (3, .int (v3_658 + b848)), (4, .ref q2), (5, .ref q3), (6, .int (v6_659 + 1)), (7, .int b843), (8, .int b844), (9, .int b845), (10, .int b933), (11, .int b934)]) X dL_places_306 6 rfl (congrArg (fun w => v6_659 + w) ci_1) (by decide) [1, 2, 3, 4, 5, 6, 0, 7, 8, 9, 10, 11] rfl ?_
                                                refine kw_goto X 24 dL_places_309 (by decide) ?_
                                                refine kw_loc (lo' := [(0, .ref h0), (1, .int b1), (2, .int (v2_657 + x851)), (3, .int (v3_658 + b848)), (4, .ref q2), (5, .ref q3), (6, .int (v6_659 + 1))]) [0, 1, 2, 3, 4, 5, 6] rfl ?_
                                                exact ih24 _ _ _ _ _ hF
                                              · replace hF := (if_pos q950).symm.trans hF
                                                refine kw_iconst X dL_places_304 ci_0 ?_
                                                obtain rfl := si1 hF
                                                refine kb_first ?_
                                                exact hret _ _ rfl dL_places_305
                                        · replace hF := (if_pos q945).symm.trans hF
                                          refine kw_iload X dL_places_266 10 rfl ?_
                                          refine kw_iload X dL_places_268 6 rfl ?_
                                          refine kw_icmp_gt X 304 dL_places_270 (by decide) (fun q951 => ?_) (fun q951 => ?_)
                                          · replace hF := (if_pos q951).symm.trans hF
                                            refine kw_iconst X dL_places_304 ci_0 ?_
                                            obtain rfl := si1 hF
                                            refine kb_first ?_
                                            exact hret _ _ rfl dL_places_305
                                          · replace hF := (if_neg q951).symm.trans hF
                                            refine kw_aload_n X dL_places_273 rfl 0 rfl ?_
                                            refine kw_iload X dL_places_274 11 rfl ?_
                                            refine kw_iconst X dL_places_276 ci_2 ?_
                                            obtain ⟨b952, hx952, hF⟩ := ob1_ex hF
                                            refine kb_ap X (r := .int b952) (As := [.int b934, .int 2]) (st := []) (cm_umbrella l D cI cC cR h0 h1 t0 t1 a b d ah v b934 2 b952 hx952) vl_L_15 yv_X6_umbrella ⟨Nat.le_of_ble_eq_true rfl, Nat.le_of_ble_eq_true rfl⟩ ⟨rfl, rfl⟩ ⟨Nat.le_of_ble_eq_true rfl, Nat.le_of_ble_eq_true rfl⟩ 0 0 rfl bO_0 rfl rfl rfl (Nat.le_of_ble_eq_true rfl) dL_places_277 ?_
                                            refine kw_iload X dL_places_280 9 rfl ?_
                                            refine kw_icmp_lt X 304 dL_places_282 (by decide) (fun q953 => ?_) (fun q953 => ?_)
                                            · replace hF := (if_pos q953).symm.trans hF
                                              refine kw_iconst X dL_places_304 ci_0 ?_
                                              obtain rfl := si1 hF
                                              refine kb_first ?_
                                              exact hret _ _ rfl dL_places_305
                                            · replace hF := (if_neg q953).symm.trans hF
                                              refine kw_aload_n X dL_places_285 rfl 0 rfl ?_
                                              refine kw_iload X dL_places_286 11 rfl ?_
                                              refine kw_iconst X dL_places_288 ci_2 ?_
                                              obtain ⟨b954, hx954, hF⟩ := ob1_ex hF
                                              refine kb_ap X (r := .int b954) (As := [.int b934, .int 2]) (st := []) (cm_umbrella l D cI cC cR h0 h1 t0 t1 a b d ah v b934 2 b954 hx954) vl_L_15 yv_X6_umbrella ⟨Nat.le_of_ble_eq_true rfl, Nat.le_of_ble_eq_true rfl⟩ ⟨rfl, rfl⟩ ⟨Nat.le_of_ble_eq_true rfl, Nat.le_of_ble_eq_true rfl⟩ 0 0 rfl bO_0 rfl rfl rfl (Nat.le_of_ble_eq_true rfl) dL_places_289 ?_
                                              refine kw_iload X dL_places_292 9 rfl ?_
                                              refine kw_icmp_ne X 306 dL_places_294 (by decide) (fun q955 => ?_) (fun q955 => ?_)
                                              · replace hF := (if_neg q955).symm.trans hF
                                                refine kw_iinc (lo' := [(0, .ref h0), (1, .int b1), (2, .int (v2_657 + x851)), (3, .int (v3_658 + b848)), (4, .ref q2), (5, .ref q3), (6, .int (v6_659 + 1)), (7, .int b843), (8, .int b844), (9, .int b845), (10, .int b933), (11, .int b934)]) X dL_places_306 6 rfl (congrArg (fun w => v6_659 + w) ci_1) (by decide) [1, 2, 3, 4, 5, 6, 0, 7, 8, 9, 10, 11] rfl ?_
                                                refine kw_goto X 24 dL_places_309 (by decide) ?_
                                                refine kw_loc (lo' := [(0, .ref h0), (1, .int b1), (2, .int (v2_657 + x851)), (3, .int (v3_658 + b848)), (4, .ref q2), (5, .ref q3), (6, .int (v6_659 + 1))]) [0, 1, 2, 3, 4, 5, 6] rfl ?_
                                                exact ih24 _ _ _ _ _ hF
                                              · replace hF := (if_pos q955).symm.trans hF
                                                refine kw_iload X dL_places_297 11 rfl ?_
                                                refine kw_iload X dL_places_299 6 rfl ?_
                                                refine kw_icmp_le X 306 dL_places_301 (by decide) (fun q956 => ?_) (fun q956 => ?_)
                                                · replace hF := (if_neg q956).symm.trans hF
                                                  refine kw_iinc (lo' := [(0, .ref h0), (1, .int b1), (2, .int (v2_657 + x851)), (3, .int (v3_658 + b848)), (4, .ref q2), (5, .ref q3), (6, .int (v6_659 + 1)), (7, .int b843), (8, .int b844), (9, .int b845), (10, .int b933), (11, .int b934)]) X dL_places_306 6 rfl (congrArg (fun w => v6_659 + w) ci_1) (by decide) [1, 2, 3, 4, 5, 6, 0, 7, 8, 9, 10, 11] rfl ?_
                                                  refine kw_goto X 24 dL_places_309 (by decide) ?_
                                                  refine kw_loc (lo' := [(0, .ref h0), (1, .int b1), (2, .int (v2_657 + x851)), (3, .int (v3_658 + b848)), (4, .ref q2), (5, .ref q3), (6, .int (v6_659 + 1))]) [0, 1, 2, 3, 4, 5, 6] rfl ?_
                                                  exact ih24 _ _ _ _ _ hF
                                                · replace hF := (if_pos q956).symm.trans hF
                                                  refine kw_iconst X dL_places_304 ci_0 ?_
                                                  obtain rfl := si1 hF
                                                  refine kb_first ?_
                                                  exact hret _ _ rfl dL_places_305
                              · replace hF := (if_pos q929).symm.trans hF
                                refine kw_iload X dL_places_189 9 rfl ?_
                                refine kw_bipush X dL_places_191 cb_32 ?_
                                refine kw_icmp_ge X 198 dL_places_193 (by decide) (fun q957 => ?_) (fun q957 => ?_)
                                · replace hF := (if_neg q957).symm.trans hF
                                  refine kw_iload X dL_places_198 7 rfl ?_
                                  refine kw_if_ne X 306 dL_places_200 (by decide) (fun q958 => ?_) (fun q958 => ?_)
                                  · replace hF := (if_neg q958).symm.trans hF
                                    refine kw_iinc (lo' := [(0, .ref h0), (1, .int b1), (2, .int (v2_657 + x851)), (3, .int (v3_658 + b848)), (4, .ref q2), (5, .ref q3), (6, .int (v6_659 + 1)), (7, .int b843), (8, .int b844), (9, .int b845)]) X dL_places_306 6 rfl (congrArg (fun w => v6_659 + w) ci_1) (by decide) [1, 2, 3, 4, 5, 6, 0, 7, 8, 9] rfl ?_
                                    refine kw_goto X 24 dL_places_309 (by decide) ?_
                                    refine kw_loc (lo' := [(0, .ref h0), (1, .int b1), (2, .int (v2_657 + x851)), (3, .int (v3_658 + b848)), (4, .ref q2), (5, .ref q3), (6, .int (v6_659 + 1))]) [0, 1, 2, 3, 4, 5, 6] rfl ?_
                                    exact ih24 _ _ _ _ _ hF
                                  · replace hF := (if_pos q958).symm.trans hF
                                    refine kw_aload X dL_places_203 5 rfl ?_
                                    refine kw_iload X dL_places_205 8 rfl ?_
                                    refine kw_dup2 X dL_places_207 rfl rfl ?_
                                    obtain ⟨a959, hx, hF⟩ := ob1_ex hF
                                    obtain ⟨hin, hx⟩ := aget_ex hx
                                    refine kb_iald X 2 0 0 rfl rfl rfl hin hx dL_places_208 ?_
                                    refine kw_iconst X dL_places_209 ci_1 ?_
                                    refine kw_iadd X dL_places_210 ?_
                                    obtain ⟨m960, hx, hF⟩ := ob1_ex hF
                                    obtain ⟨hin, hx⟩ := aset_ex hx
                                    refine kb_iast X (bs' := [bO cI cC cR h0 h1 t0 t1 a b d ah v, [(q2, .inl (cI, 5, .inl m847))], [(q3, .inl (cI, 8, .inl m960))]]) E 2 0 0 rfl rfl rfl hin (by rw [hx]; rfl) dL_places_211 ?_
                                    refine kw_aload_n X dL_places_212 rfl 0 rfl ?_
                                    refine kw_iload X dL_places_213 8 rfl ?_
                                    refine kw_iconst X dL_places_215 ci_3 ?_
                                    obtain ⟨b961, hx961, hF⟩ := ob1_ex hF
                                    refine kb_ap X (r := .int b961) (As := [.int b844, .int 3]) (st := []) (cm_stand l D cI cC cR h0 h1 t0 t1 a b d ah v b844 3 Z b961 hx961) vl_L_24 yv_X6_stand ⟨Nat.le_of_ble_eq_true rfl, Nat.le_of_ble_eq_true rfl⟩ ⟨rfl, rfl⟩ ⟨Nat.le_of_ble_eq_true rfl, Nat.le_of_ble_eq_true rfl⟩ 0 0 rfl bO_0 rfl rfl rfl (Nat.le_of_ble_eq_true rfl) dL_places_216 ?_
                                    refine kw_istore (lo' := [(0, .ref h0), (1, .int b1), (2, .int (v2_657 + x851)), (3, .int (v3_658 + b848)), (4, .ref q2), (5, .ref q3), (6, .int v6_659), (7, .int b843), (8, .int b844), (9, .int b845), (10, .int b961)]) X dL_places_219 (by decide) [1, 2, 3, 4, 5, 6, 7, 8, 9, 10, 0] rfl ?_
                                    refine kw_aload_n X dL_places_221 rfl 0 rfl ?_
                                    refine kw_iload X dL_places_222 8 rfl ?_
                                    refine kw_iconst X dL_places_224 ci_4 ?_
                                    obtain ⟨b962, hx962, hF⟩ := ob1_ex hF
                                    refine kb_ap X (r := .int b962) (As := [.int b844, .int 4]) (st := []) (cm_stand l D cI cC cR h0 h1 t0 t1 a b d ah v b844 4 Z b962 hx962) vl_L_24 yv_X6_stand ⟨Nat.le_of_ble_eq_true rfl, Nat.le_of_ble_eq_true rfl⟩ ⟨rfl, rfl⟩ ⟨Nat.le_of_ble_eq_true rfl, Nat.le_of_ble_eq_true rfl⟩ 0 0 rfl bO_0 rfl rfl rfl (Nat.le_of_ble_eq_true rfl) dL_places_225 ?_
                                    refine kw_istore (lo' := [(0, .ref h0), (1, .int b1), (2, .int (v2_657 + x851)), (3, .int (v3_658 + b848)), (4, .ref q2), (5, .ref q3), (6, .int v6_659), (7, .int b843), (8, .int b844), (9, .int b845), (10, .int b961), (11, .int b962)]) X dL_places_228 (by decide) [1, 2, 3, 4, 5, 6, 7, 8, 9, 10, 11, 0] rfl ?_
                                    refine kw_iload X dL_places_230 9 rfl ?_
                                    refine kw_bipush X dL_places_232 cb_32 ?_
                                    refine kw_icmp_ge X 273 dL_places_234 (by decide) (fun q963 => ?_) (fun q963 => ?_)
                                    · replace hF := (if_neg q963).symm.trans hF
                                      refine kw_aload_n X dL_places_273 rfl 0 rfl ?_
                                      refine kw_iload X dL_places_274 11 rfl ?_
                                      refine kw_iconst X dL_places_276 ci_2 ?_
                                      obtain ⟨b964, hx964, hF⟩ := ob1_ex hF
                                      refine kb_ap X (r := .int b964) (As := [.int b962, .int 2]) (st := []) (cm_umbrella l D cI cC cR h0 h1 t0 t1 a b d ah v b962 2 b964 hx964) vl_L_15 yv_X6_umbrella ⟨Nat.le_of_ble_eq_true rfl, Nat.le_of_ble_eq_true rfl⟩ ⟨rfl, rfl⟩ ⟨Nat.le_of_ble_eq_true rfl, Nat.le_of_ble_eq_true rfl⟩ 0 0 rfl bO_0 rfl rfl rfl (Nat.le_of_ble_eq_true rfl) dL_places_277 ?_
                                      refine kw_iload X dL_places_280 9 rfl ?_
                                      refine kw_icmp_lt X 304 dL_places_282 (by decide) (fun q965 => ?_) (fun q965 => ?_)
                                      · replace hF := (if_pos q965).symm.trans hF
                                        refine kw_iconst X dL_places_304 ci_0 ?_
                                        obtain rfl := si1 hF
                                        refine kb_first ?_
                                        exact hret _ _ rfl dL_places_305
                                      · replace hF := (if_neg q965).symm.trans hF
                                        refine kw_aload_n X dL_places_285 rfl 0 rfl ?_
                                        refine kw_iload X dL_places_286 11 rfl ?_
                                        refine kw_iconst X dL_places_288 ci_2 ?_
                                        obtain ⟨b966, hx966, hF⟩ := ob1_ex hF
                                        refine kb_ap X (r := .int b966) (As := [.int b962, .int 2]) (st := []) (cm_umbrella l D cI cC cR h0 h1 t0 t1 a b d ah v b962 2 b966 hx966) vl_L_15 yv_X6_umbrella ⟨Nat.le_of_ble_eq_true rfl, Nat.le_of_ble_eq_true rfl⟩ ⟨rfl, rfl⟩ ⟨Nat.le_of_ble_eq_true rfl, Nat.le_of_ble_eq_true rfl⟩ 0 0 rfl bO_0 rfl rfl rfl (Nat.le_of_ble_eq_true rfl) dL_places_289 ?_
                                        refine kw_iload X dL_places_292 9 rfl ?_
                                        refine kw_icmp_ne X 306 dL_places_294 (by decide) (fun q967 => ?_) (fun q967 => ?_)
                                        · replace hF := (if_neg q967).symm.trans hF
                                          refine kw_iinc (lo' := [(0, .ref h0), (1, .int b1), (2, .int (v2_657 + x851)), (3, .int (v3_658 + b848)), (4, .ref q2), (5, .ref q3), (6, .int (v6_659 + 1)), (7, .int b843), (8, .int b844), (9, .int b845), (10, .int b961), (11, .int b962)]) X dL_places_306 6 rfl (congrArg (fun w => v6_659 + w) ci_1) (by decide) [1, 2, 3, 4, 5, 6, 0, 7, 8, 9, 10, 11] rfl ?_
                                          refine kw_goto X 24 dL_places_309 (by decide) ?_
                                          refine kw_loc (lo' := [(0, .ref h0), (1, .int b1), (2, .int (v2_657 + x851)), (3, .int (v3_658 + b848)), (4, .ref q2), (5, .ref q3), (6, .int (v6_659 + 1))]) [0, 1, 2, 3, 4, 5, 6] rfl ?_
                                          exact ih24 _ _ _ _ _ hF
                                        · replace hF := (if_pos q967).symm.trans hF
                                          refine kw_iload X dL_places_297 11 rfl ?_
                                          refine kw_iload X dL_places_299 6 rfl ?_
                                          refine kw_icmp_le X 306 dL_places_301 (by decide) (fun q968 => ?_) (fun q968 => ?_)
                                          · replace hF := (if_neg q968).symm.trans hF
                                            refine kw_iinc (lo' := [(0, .ref h0), (1, .int b1), (2, .int (v2_657 + x851)), (3, .int (v3_658 + b848)), (4, .ref q2), (5, .ref q3), (6, .int (v6_659 + 1)), (7, .int b843), (8, .int b844), (9, .int b845), (10, .int b961), (11, .int b962)]) X dL_places_306 6 rfl (congrArg (fun w => v6_659 + w) ci_1) (by decide) [1, 2, 3, 4, 5, 6, 0, 7, 8, 9, 10, 11] rfl ?_
                                            refine kw_goto X 24 dL_places_309 (by decide) ?_
                                            refine kw_loc (lo' := [(0, .ref h0), (1, .int b1), (2, .int (v2_657 + x851)), (3, .int (v3_658 + b848)), (4, .ref q2), (5, .ref q3), (6, .int (v6_659 + 1))]) [0, 1, 2, 3, 4, 5, 6] rfl ?_
                                            exact ih24 _ _ _ _ _ hF
                                          · replace hF := (if_pos q968).symm.trans hF
                                            refine kw_iconst X dL_places_304 ci_0 ?_
                                            obtain rfl := si1 hF
                                            refine kb_first ?_
                                            exact hret _ _ rfl dL_places_305
                                    · replace hF := (if_pos q963).symm.trans hF
                                      refine kw_iload X dL_places_237 10 rfl ?_
                                      refine kw_if_lt X 304 dL_places_239 (by decide) (fun q969 => ?_) (fun q969 => ?_)
                                      · replace hF := (if_pos q969).symm.trans hF
                                        refine kw_iconst X dL_places_304 ci_0 ?_
                                        obtain rfl := si1 hF
                                        refine kb_first ?_
                                        exact hret _ _ rfl dL_places_305
                                      · replace hF := (if_neg q969).symm.trans hF
                                        refine kw_aload_n X dL_places_242 rfl 0 rfl ?_
                                        refine kw_iload X dL_places_243 10 rfl ?_
                                        refine kw_iconst X dL_places_245 ci_2 ?_
                                        obtain ⟨b970, hx970, hF⟩ := ob1_ex hF
                                        refine kb_ap X (r := .int b970) (As := [.int b961, .int 2]) (st := []) (cm_umbrella l D cI cC cR h0 h1 t0 t1 a b d ah v b961 2 b970 hx970) vl_L_15 yv_X6_umbrella ⟨Nat.le_of_ble_eq_true rfl, Nat.le_of_ble_eq_true rfl⟩ ⟨rfl, rfl⟩ ⟨Nat.le_of_ble_eq_true rfl, Nat.le_of_ble_eq_true rfl⟩ 0 0 rfl bO_0 rfl rfl rfl (Nat.le_of_ble_eq_true rfl) dL_places_246 ?_
                                        refine kw_iload X dL_places_249 9 rfl ?_
                                        refine kw_icmp_gt X 304 dL_places_251 (by decide) (fun q971 => ?_) (fun q971 => ?_)
                                        · replace hF := (if_pos q971).symm.trans hF
                                          refine kw_iconst X dL_places_304 ci_0 ?_
                                          obtain rfl := si1 hF
                                          refine kb_first ?_
                                          exact hret _ _ rfl dL_places_305
                                        · replace hF := (if_neg q971).symm.trans hF
                                          refine kw_aload_n X dL_places_254 rfl 0 rfl ?_
                                          refine kw_iload X dL_places_255 10 rfl ?_
                                          refine kw_iconst X dL_places_257 ci_2 ?_
                                          obtain ⟨b972, hx972, hF⟩ := ob1_ex hF
                                          refine kb_ap X (r := .int b972) (As := [.int b961, .int 2]) (st := []) (cm_umbrella l D cI cC cR h0 h1 t0 t1 a b d ah v b961 2 b972 hx972) vl_L_15 yv_X6_umbrella ⟨Nat.le_of_ble_eq_true rfl, Nat.le_of_ble_eq_true rfl⟩ ⟨rfl, rfl⟩ ⟨Nat.le_of_ble_eq_true rfl, Nat.le_of_ble_eq_true rfl⟩ 0 0 rfl bO_0 rfl rfl rfl (Nat.le_of_ble_eq_true rfl) dL_places_258 ?_
                                          refine kw_iload X dL_places_261 9 rfl ?_
                                          refine kw_icmp_ne X 273 dL_places_263 (by decide) (fun q973 => ?_) (fun q973 => ?_)
                                          · replace hF := (if_neg q973).symm.trans hF
                                            refine kw_aload_n X dL_places_273 rfl 0 rfl ?_
                                            refine kw_iload X dL_places_274 11 rfl ?_
                                            refine kw_iconst X dL_places_276 ci_2 ?_
                                            obtain ⟨b974, hx974, hF⟩ := ob1_ex hF
                                            refine kb_ap X (r := .int b974) (As := [.int b962, .int 2]) (st := []) (cm_umbrella l D cI cC cR h0 h1 t0 t1 a b d ah v b962 2 b974 hx974) vl_L_15 yv_X6_umbrella ⟨Nat.le_of_ble_eq_true rfl, Nat.le_of_ble_eq_true rfl⟩ ⟨rfl, rfl⟩ ⟨Nat.le_of_ble_eq_true rfl, Nat.le_of_ble_eq_true rfl⟩ 0 0 rfl bO_0 rfl rfl rfl (Nat.le_of_ble_eq_true rfl) dL_places_277 ?_
                                            refine kw_iload X dL_places_280 9 rfl ?_
                                            refine kw_icmp_lt X 304 dL_places_282 (by decide) (fun q975 => ?_) (fun q975 => ?_)
                                            · replace hF := (if_pos q975).symm.trans hF
                                              refine kw_iconst X dL_places_304 ci_0 ?_
                                              obtain rfl := si1 hF
                                              refine kb_first ?_
                                              exact hret _ _ rfl dL_places_305
                                            · replace hF := (if_neg q975).symm.trans hF
                                              refine kw_aload_n X dL_places_285 rfl 0 rfl ?_
                                              refine kw_iload X dL_places_286 11 rfl ?_
                                              refine kw_iconst X dL_places_288 ci_2 ?_
                                              obtain ⟨b976, hx976, hF⟩ := ob1_ex hF
                                              refine kb_ap X (r := .int b976) (As := [.int b962, .int 2]) (st := []) (cm_umbrella l D cI cC cR h0 h1 t0 t1 a b d ah v b962 2 b976 hx976) vl_L_15 yv_X6_umbrella ⟨Nat.le_of_ble_eq_true rfl, Nat.le_of_ble_eq_true rfl⟩ ⟨rfl, rfl⟩ ⟨Nat.le_of_ble_eq_true rfl, Nat.le_of_ble_eq_true rfl⟩ 0 0 rfl bO_0 rfl rfl rfl (Nat.le_of_ble_eq_true rfl) dL_places_289 ?_
                                              refine kw_iload X dL_places_292 9 rfl ?_
                                              refine kw_icmp_ne X 306 dL_places_294 (by decide) (fun q977 => ?_) (fun q977 => ?_)
                                              · replace hF := (if_neg q977).symm.trans hF
                                                refine kw_iinc (lo' := [(0, .ref h0), (1, .int b1), (2, .int (v2_657 + x851)), (3, .int (v3_658 + b848)), (4, .ref q2), (5, .ref q3), (6, .int (v6_659 + 1)), (7, .int b843), (8, .int b844), (9, .int b845), (10, .int b961), (11, .int b962)]) X dL_places_306 6 rfl (congrArg (fun w => v6_659 + w) ci_1) (by decide) [1, 2, 3, 4, 5, 6, 0, 7, 8, 9, 10, 11] rfl ?_
                                                refine kw_goto X 24 dL_places_309 (by decide) ?_
                                                refine kw_loc (lo' := [(0, .ref h0), (1, .int b1), (2, .int (v2_657 + x851)), (3, .int (v3_658 + b848)), (4, .ref q2), (5, .ref q3), (6, .int (v6_659 + 1))]) [0, 1, 2, 3, 4, 5, 6] rfl ?_
                                                exact ih24 _ _ _ _ _ hF
                                              · replace hF := (if_pos q977).symm.trans hF
                                                refine kw_iload X dL_places_297 11 rfl ?_
                                                refine kw_iload X dL_places_299 6 rfl ?_
                                                refine kw_icmp_le X 306 dL_places_301 (by decide) (fun q978 => ?_) (fun q978 => ?_)
                                                · replace hF := (if_neg q978).symm.trans hF
                                                  refine kw_iinc (lo' := [(0, .ref h0), (1, .int b1), (2, .int (v2_657 + x851)), (3, .int (v3_658 + b848)), (4, .ref q2), (5, .ref q3), (6, .int (v6_659 + 1)), (7, .int b843), (8, .int b844), (9, .int b845), (10, .int b961), (11, .int b962)]) X dL_places_306 6 rfl (congrArg (fun w => v6_659 + w) ci_1) (by decide) [1, 2, 3, 4, 5, 6, 0, 7, 8, 9, 10, 11] rfl ?_
                                                  refine kw_goto X 24 dL_places_309 (by decide) ?_
                                                  refine kw_loc (lo' := [(0, .ref h0), (1, .int b1), (2, .int (v2_657 + x851)), (3, .int (v3_658 + b848)), (4, .ref q2), (5, .ref q3), (6, .int (v6_659 + 1))]) [0, 1, 2, 3, 4, 5, 6] rfl ?_
                                                  exact ih24 _ _ _ _ _ hF
                                                · replace hF := (if_pos q978).symm.trans hF
                                                  refine kw_iconst X dL_places_304 ci_0 ?_
                                                  obtain rfl := si1 hF
                                                  refine kb_first ?_
                                                  exact hret _ _ rfl dL_places_305
                                          · replace hF := (if_pos q973).symm.trans hF
                                            refine kw_iload X dL_places_266 10 rfl ?_
                                            refine kw_iload X dL_places_268 6 rfl ?_
                                            refine kw_icmp_gt X 304 dL_places_270 (by decide) (fun q979 => ?_) (fun q979 => ?_)
                                            · replace hF := (if_pos q979).symm.trans hF
                                              refine kw_iconst X dL_places_304 ci_0 ?_
                                              obtain rfl := si1 hF
                                              refine kb_first ?_
                                              exact hret _ _ rfl dL_places_305
                                            · replace hF := (if_neg q979).symm.trans hF
                                              refine kw_aload_n X dL_places_273 rfl 0 rfl ?_
                                              refine kw_iload X dL_places_274 11 rfl ?_
                                              refine kw_iconst X dL_places_276 ci_2 ?_
                                              obtain ⟨b980, hx980, hF⟩ := ob1_ex hF
                                              refine kb_ap X (r := .int b980) (As := [.int b962, .int 2]) (st := []) (cm_umbrella l D cI cC cR h0 h1 t0 t1 a b d ah v b962 2 b980 hx980) vl_L_15 yv_X6_umbrella ⟨Nat.le_of_ble_eq_true rfl, Nat.le_of_ble_eq_true rfl⟩ ⟨rfl, rfl⟩ ⟨Nat.le_of_ble_eq_true rfl, Nat.le_of_ble_eq_true rfl⟩ 0 0 rfl bO_0 rfl rfl rfl (Nat.le_of_ble_eq_true rfl) dL_places_277 ?_
                                              refine kw_iload X dL_places_280 9 rfl ?_
                                              refine kw_icmp_lt X 304 dL_places_282 (by decide) (fun q981 => ?_) (fun q981 => ?_)
                                              · replace hF := (if_pos q981).symm.trans hF
                                                refine kw_iconst X dL_places_304 ci_0 ?_
                                                obtain rfl := si1 hF
                                                refine kb_first ?_
                                                exact hret _ _ rfl dL_places_305
                                              · replace hF := (if_neg q981).symm.trans hF
                                                refine kw_aload_n X dL_places_285 rfl 0 rfl ?_
                                                refine kw_iload X dL_places_286 11 rfl ?_
                                                refine kw_iconst X dL_places_288 ci_2 ?_
                                                obtain ⟨b982, hx982, hF⟩ := ob1_ex hF
                                                refine kb_ap X (r := .int b982) (As := [.int b962, .int 2]) (st := []) (cm_umbrella l D cI cC cR h0 h1 t0 t1 a b d ah v b962 2 b982 hx982) vl_L_15 yv_X6_umbrella ⟨Nat.le_of_ble_eq_true rfl, Nat.le_of_ble_eq_true rfl⟩ ⟨rfl, rfl⟩ ⟨Nat.le_of_ble_eq_true rfl, Nat.le_of_ble_eq_true rfl⟩ 0 0 rfl bO_0 rfl rfl rfl (Nat.le_of_ble_eq_true rfl) dL_places_289 ?_
                                                refine kw_iload X dL_places_292 9 rfl ?_
                                                refine kw_icmp_ne X 306 dL_places_294 (by decide) (fun q983 => ?_) (fun q983 => ?_)
                                                · replace hF := (if_neg q983).symm.trans hF
                                                  refine kw_iinc (lo' := [(0, .ref h0), (1, .int b1), (2, .int (v2_657 + x851)), (3, .int (v3_658 + b848)), (4, .ref q2), (5, .ref q3), (6, .int (v6_659 + 1)), (7, .int b843), (8, .int b844), (9, .int b845), (10, .int b961), (11, .int b962)]) X dL_places_306 6 rfl (congrArg (fun w => v6_659 + w) ci_1) (by decide) [1, 2, 3, 4, 5, 6, 0, 7, 8, 9, 10, 11] rfl ?_
                                                  refine kw_goto X 24 dL_places_309 (by decide) ?_
                                                  refine kw_loc (lo' := [(0, .ref h0), (1, .int b1), (2, .int (v2_657 + x851)), (3, .int (v3_658 + b848)), (4, .ref q2), (5, .ref q3), (6, .int (v6_659 + 1))]) [0, 1, 2, 3, 4, 5, 6] rfl ?_
                                                  exact ih24 _ _ _ _ _ hF
                                                · replace hF := (if_pos q983).symm.trans hF
                                                  refine kw_iload X dL_places_297 11 rfl ?_
                                                  refine kw_iload X dL_places_299 6 rfl ?_
                                                  refine kw_icmp_le X 306 dL_places_301 (by decide) (fun q984 => ?_) (fun q984 => ?_)
                                                  · replace hF := (if_neg q984).symm.trans hF
                                                    refine kw_iinc (lo' := [(0, .ref h0), (1, .int b1), (2, .int (v2_657 + x851)), (3, .int (v3_658 + b848)), (4, .ref q2), (5, .ref q3), (6, .int (v6_659 + 1)), (7, .int b843), (8, .int b844), (9, .int b845), (10, .int b961), (11, .int b962)]) X dL_places_306 6 rfl (congrArg (fun w => v6_659 + w) ci_1) (by decide) [1, 2, 3, 4, 5, 6, 0, 7, 8, 9, 10, 11] rfl ?_
                                                    refine kw_goto X 24 dL_places_309 (by decide) ?_
                                                    refine kw_loc (lo' := [(0, .ref h0), (1, .int b1), (2, .int (v2_657 + x851)), (3, .int (v3_658 + b848)), (4, .ref q2), (5, .ref q3), (6, .int (v6_659 + 1))]) [0, 1, 2, 3, 4, 5, 6] rfl ?_
                                                    exact ih24 _ _ _ _ _ hF
                                                  · replace hF := (if_pos q984).symm.trans hF
                                                    refine kw_iconst X dL_places_304 ci_0 ?_
                                                    obtain rfl := si1 hF
                                                    refine kb_first ?_
                                                    exact hret _ _ rfl dL_places_305
                                · replace hF := (if_pos q957).symm.trans hF
                                  refine kw_iconst X dL_places_196 ci_0 ?_
                                  obtain rfl := si1 hF
                                  refine kb_first ?_
                                  exact hret _ _ rfl dL_places_197
                      replace hF := hx868
                      refine kw_icmp_le X 161 dL_places_154 (by decide) (fun q866 => ?_) (fun q866 => ?_)
                      · replace hF := (if_neg q866).symm.trans hF
                        refine kw_iconst X dL_places_161 ci_0 ?_
                        obtain rfl := ti1 hF
                        exact J
                      · replace hF := (if_pos q866).symm.trans hF
                        refine kw_iconst X dL_places_157 ci_1 ?_
                        refine kw_goto X 162 dL_places_158 (by decide) ?_
                        obtain rfl := ti1 hF
                        exact J
                    replace hF := hx865
                    refine kw_icmp_ne X 150 dL_places_143 (by decide) (fun q863 => ?_) (fun q863 => ?_)
                    · replace hF := (if_neg q863).symm.trans hF
                      refine kw_iconst X dL_places_150 ci_0 ?_
                      obtain rfl := ti1 hF
                      exact J
                    · replace hF := (if_pos q863).symm.trans hF
                      refine kw_iconst X dL_places_146 ci_1 ?_
                      refine kw_goto X 151 dL_places_147 (by decide) ?_
                      obtain rfl := ti1 hF
                      exact J
                replace hF := hx861
                refine kw_icmp_le X 135 dL_places_128 (by decide) (fun q859 => ?_) (fun q859 => ?_)
                · replace hF := (if_neg q859).symm.trans hF
                  refine kw_iconst X dL_places_135 ci_0 ?_
                  obtain rfl := ti1 hF
                  exact J
                · replace hF := (if_pos q859).symm.trans hF
                  refine kw_iconst X dL_places_131 ci_1 ?_
                  refine kw_goto X 136 dL_places_132 (by decide) ?_
                  obtain rfl := ti1 hF
                  exact J
              replace hF := hx858
              refine kw_icmp_ne X 123 dL_places_116 (by decide) (fun q856 => ?_) (fun q856 => ?_)
              · replace hF := (if_neg q856).symm.trans hF
                refine kw_iconst X dL_places_123 ci_0 ?_
                obtain rfl := ti1 hF
                exact J
              · replace hF := (if_pos q856).symm.trans hF
                refine kw_iconst X dL_places_119 ci_1 ?_
                refine kw_goto X 124 dL_places_120 (by decide) ?_
                obtain rfl := ti1 hF
                exact J
        replace hF := hx852
        refine kw_icmp_ge X 93 dL_places_80 (by decide) (fun q849 => ?_) (fun q849 => ?_)
        · replace hF := (if_neg q849).symm.trans hF
          refine kw_iconst X dL_places_93 ci_0 ?_
          refine kw_loc (lo' := [(0, .ref h0), (1, .int b1), (3, .int (v3_658 + b848)), (4, .ref q2), (5, .ref q3), (6, .int v6_659), (7, .int b843), (8, .int b844), (9, .int b845)]) [0, 1, 3, 4, 5, 6, 7, 8, 9] rfl ?_
          obtain rfl := si1 hF
          exact J
        · replace hF := (if_pos q849).symm.trans hF
          refine kw_aload_n X dL_places_83 rfl 0 rfl ?_
          refine kw_iload X dL_places_84 6 rfl ?_
          refine kw_iconst X dL_places_86 ci_3 ?_
          obtain ⟨b985, hx985, hF⟩ := ob1_ex hF
          refine kb_ap X (r := .int b985) (As := [.int v6_659, .int 3]) (st := [.int v2_657]) (cm_umbrella l D cI cC cR h0 h1 t0 t1 a b d ah v v6_659 3 b985 hx985) vl_L_15 yv_X6_umbrella ⟨Nat.le_of_ble_eq_true rfl, Nat.le_of_ble_eq_true rfl⟩ ⟨rfl, rfl⟩ ⟨Nat.le_of_ble_eq_true rfl, Nat.le_of_ble_eq_true rfl⟩ 0 0 rfl bO_0 rfl rfl rfl (Nat.le_of_ble_eq_true rfl) dL_places_87 ?_
          refine kw_goto X 94 dL_places_90 (by decide) ?_
          refine kw_loc (lo' := [(0, .ref h0), (1, .int b1), (3, .int (v3_658 + b848)), (4, .ref q2), (5, .ref q3), (6, .int v6_659), (7, .int b843), (8, .int b844), (9, .int b845)]) [0, 1, 3, 4, 5, 6, 7, 8, 9] rfl ?_
          obtain rfl := si1 hF
          exact J
  exact hL24 Z _ _ _ _ _ hF
