/-! a clause: a doing, both -/
section SFP33
variable {V X U : sf_MV} {n : Nat} {t : Nat → Int} {L : Nat}
/-- the first blame of five -/
def sf_f5 (a b c d e : Int) : Int := if ¬ a = 0 then a else if ¬ b = 0 then b else if ¬ c = 0 then c else if ¬ d = 0 then d else e
def sf_wf5 (a b c d : Int) (i j k l m : Nat) : Nat := if ¬ a = 0 then i else if ¬ b = 0 then j else if ¬ c = 0 then k else if ¬ d = 0 then l else m
theorem sf_f5_chain {q0 q1 q2 q3 q4 a b c d e : Int} {w0 w1 w2 w3 w4 : Int} {i j k l m : Nat} (h0 : q0 = a) (h0' : w0 = if ¬ a = 0 then (i : Int) else -1)
    (h1 : q1 = if q0 = 0 then b else q0) (h1' : w1 = if q0 = 0 ∧ ¬ b = 0 then (j : Int) else w0)
    (h2 : q2 = if q1 = 0 then c else q1) (h2' : w2 = if q1 = 0 ∧ ¬ c = 0 then (k : Int) else w1)
    (h3 : q3 = if q2 = 0 then d else q2) (h3' : w3 = if q2 = 0 ∧ ¬ d = 0 then (l : Int) else w2)
    (h4 : q4 = if q3 = 0 then e else q3) (h4' : w4 = if q3 = 0 ∧ ¬ e = 0 then (m : Int) else w3) :
    q4 = sf_f5 a b c d e ∧ (¬ sf_f5 a b c d e = 0 → w4 = (sf_wf5 a b c d i j k l m : Nat)) ∧ (sf_f5 a b c d e = 0 → w4 = -1) := by
  unfold sf_f5 sf_wf5
  by_cases ha : a = 0
  · by_cases hb : b = 0
    · by_cases hc : c = 0
      · by_cases hd : d = 0
        · by_cases he : e = 0 <;> simp_all
        · simp_all
      · simp_all
    · simp_all
  · simp_all
theorem sf_cdC {i : Nat} {told : Int} (hx : sf_TX V t L) (hx4 : V (sf_rf 0 0) 4 = 0) (hx3 : V (sf_rf 0 0) 3 = -1) (x5 : V (sf_rf 0 0) 5 = (i : Int)) (hx6 : V (sf_rf 0 0) 6 = told) (hi : i < L) {j k1 j2 k2 j3 k3 j4 : Nat} {v1 v2 v3 : Int}
    (hj0 : sf_sk t (L - (i + 1)) (i + 1) = j) (hk1 : sf_de t (L - j) j = k1) (hv1 : sf_vc t j (L - j) j 0 = v1) (hj2 : sf_sk t (L - k1) k1 = j2) (hk2 : sf_de t (L - j2) j2 = k2) (hv2 : sf_vc t j2 (L - j2) j2 0 = v2) (hj3 : sf_sk t (L - k2) k2 = j3) (hk3 : sf_de t (L - j3) j3 = k3) (hv3 : sf_vc t j3 (L - j3) j3 0 = v3) (hj4 : sf_sk t (L - k3) k3 = j4) :
    ∃ V4 W, sf_FT V V4 ∧ sf_wr (sf_wr (sf_upd V4 (sf_rf 0 0) 6 (sf_tn2 told v1)) (sf_rf (sf_rf (sf_rf (sf_rf 0 0) 1) 2) 0) v1 v2) (sf_rf (sf_rf (sf_rf (sf_rf 0 0) 1) 3) 0) v1 v3 = W ∧ V4 (sf_rf 0 0) 5 = (sf_ek t L j4 : Nat) ∧
      (V4 (sf_rf 0 0) 4 = sf_f5 (sf_nb 0 5 j k1 v1) (if sf_tbit told v1 = 0 then 0 else 4) (sf_nb 0 9 j2 k2 v2) (sf_nb 0 6 j3 k3 v3) (sf_eb t L j4) ∧ (¬ sf_f5 (sf_nb 0 5 j k1 v1) (if sf_tbit told v1 = 0 then 0 else 4) (sf_nb 0 9 j2 k2 v2) (sf_nb 0 6 j3 k3 v3) (sf_eb t L j4) = 0 → V4 (sf_rf 0 0) 3 = (sf_wf5 (sf_nb 0 5 j k1 v1) (if sf_tbit told v1 = 0 then 0 else 4) (sf_nb 0 9 j2 k2 v2) (sf_nb 0 6 j3 k3 v3) j j j2 j3 j4 : Nat)) ∧ (sf_f5 (sf_nb 0 5 j k1 v1) (if sf_tbit told v1 = 0 then 0 else 4) (sf_nb 0 9 j2 k2 v2) (sf_nb 0 6 j3 k3 v3) (sf_eb t L j4) = 0 → V4 (sf_rf 0 0) 3 = -1)) ∧
      (∀ d K, sf_wp (d + 3) none 52 0 [some (.inr (.inl (some (sf_rf 0 0)))), none, none, none, none] [] (sf_E V) K = K none (sf_E W)) := by
  obtain ⟨c0, c1, c2⟩ := sf_txt
  have r2 := sf_c2_2 c2
  have r3 := sf_c2_3 c2
  have hL2 := hx.2.1
  -- the class
  have js0 := sf_sk_in (t := t) (L - (i + 1)) (i + 1)
  rw [hj0] at js0
  have hj1 := sf_sk_idem (t := t) (L := L) (i := i + 1) (by omega) hj0
  have T0 : sf_TX (sf_upd V (sf_rf 0 0) 5 (j : Int)) t L := sf_TX_5 hx
  have ks1 := sf_de_in (t := t) (L - j) j
  rw [hk1] at ks1
  obtain ⟨V1, g1, p1, q1, w1, e1⟩ := sf_CN (lo := 0) (hi := 5) T0 sf_upd_eq (by omega) hj1 hk1 hv1
  have G1 := sf_FT_trans (sf_FT_5 (V := V) (v := (j : Int))) g1
  have t1 : V1 (sf_rf 0 0) 6 = told := by rw [G1.2 6 (by decide) (by decide) (by decide)]; exact hx6
  generalize hq4 : (if sf_tbit told v1 = 0 then (0 : Int) else 4) = q4
  have g1b : sf_FT V1 (sf_bl V1 q4 j) := sf_FT_bl
  have p1b : sf_bl V1 q4 j (sf_rf 0 0) 5 = (k1 : Int) := by rw [sf_bl_ne2 (by decide) (by decide)]; exact p1
  have q1b := sf_bl_4 (V := V1) (q := q4) (w := j)
  have w1b := sf_bl_3 (V := V1) (q := q4) (w := j)
  have T1 := sf_TX_FT (sf_TX_FT T0 g1) g1b
  have step4 : ∀ d K, sf_wp (d + 2 + 1) none 52 26 [some (.inr (.inl (some (sf_rf 0 0)))), some (.inl (j : Int)), some (.inl v1), none, none] [] (sf_E V1) K = sf_wp (d + 2 + 1) none 52 43 [some (.inr (.inl (some (sf_rf 0 0)))), some (.inl (j : Int)), some (.inl v1), none, none] [] (sf_E (sf_bl V1 q4 j)) K := fun d K => by
    simp only [q52_26, q52_27, q52_30, q52_31, q52_32, q52_33, c0, t1]
    have eb : (Int32.ofInt (Int32.ofInt told >>> (Int32.ofInt v1 &&& 31)).toInt &&& Int32.ofInt 1).toInt = sf_tbit told v1 := rfl
    rw [eb, q52_34]
    by_cases z : sf_tbit told v1 = 0
    · rw [if_pos z] at hq4
      rw [if_pos z, ← hq4, sf_bl_0]
    · rw [if_neg z] at hq4
      rw [if_neg z, ← hq4]
      simp only [q52_37, q52_38, q52_39, q52_40, c0]
      rw [s58 (by decide)]
      simp only [Option.toList_some, Option.toList_none, List.cons_append, List.nil_append]
  generalize hV1b : sf_bl V1 q4 j = V1b at g1b p1b q1b w1b T1 step4
  have js2 := sf_sk_in (t := t) (L - k1) k1
  rw [hj2] at js2
  have ks2 := sf_de_in (t := t) (L - j2) j2
  rw [hk2] at ks2
  obtain ⟨V2, g2, p2, q2, w2, e2⟩ := sf_CN (lo := 0) (hi := 9) T1 p1b (by omega) hj2 hk2 hv2
  have T2 := sf_TX_FT T1 g2
  have js3 := sf_sk_in (t := t) (L - k2) k2
  rw [hj3] at js3
  have ks3 := sf_de_in (t := t) (L - j3) j3
  rw [hk3] at ks3
  obtain ⟨V3, g3, p3, q3, w3, e3⟩ := sf_CN (lo := 0) (hi := 6) T2 p2 (by omega) hj3 hk3 hv3
  have T3 := sf_TX_FT T2 g3
  have js4 := sf_sk_in (t := t) (L - k3) k3
  rw [hj4] at js4
  have ek4 := sf_ek_in (t := t) (show j4 ≤ L by omega)
  obtain ⟨V4, g4, p4, q4', w4, e4⟩ := sf_CE T3 p3 (by omega) hj4
  have G4 := sf_FT_trans (sf_FT_trans (sf_FT_trans (sf_FT_trans G1 g1b) g2) g3) g4
  have T4 := sf_TX_FT T3 g4
  have t4 : V4 (sf_rf 0 0) 6 = told := by rw [G4.2 6 (by decide) (by decide) (by decide)]; exact hx6
  -- the class's end
  generalize hW : sf_wr (sf_wr (sf_upd V4 (sf_rf 0 0) 6 (sf_tn2 told v1)) (sf_rf (sf_rf (sf_rf (sf_rf 0 0) 1) 2) 0) v1 v2) (sf_rf (sf_rf (sf_rf (sf_rf 0 0) 1) 3) 0) v1 v3 = W
  have clsW : ∀ d K, sf_wp (d + 3) none 52 0 [some (.inr (.inl (some (sf_rf 0 0)))), none, none, none, none] [] (sf_E V) K = K none (sf_E W) := fun d K => by
    simp only [q52_0, q52_1, q52_2, q52_5, q52_6, q52_7, q52_10, q52_11, c0, x5]
    rw [sf_wS (by omega), s56 (L - (i + 1)) (i + 1) _ (sf_TX_5 hx) sf_upd_eq rfl (by omega), sf_upd_upd, hj0]
    simp only [q52_14, q52_15, q52_18, q52_19, q52_20, q52_21, q52_22, c0, sf_upd_eq, Option.toList_some, Option.toList_none, List.cons_append, List.nil_append]
    rw [e1]
    simp only [q52_25, Option.toList_some, Option.toList_none, List.cons_append, List.nil_append]
    refine Eq.trans (step4 d K) ?_
    simp only [q52_43, q52_44, q52_45, q52_47, c0]
    rw [e2]
    simp only [q52_50, q52_51, q52_52, q52_53, q52_55, c0, Option.toList_some, Option.toList_none, List.cons_append, List.nil_append]
    rw [e3]
    simp only [q52_58, q52_60, q52_61, c0, Option.toList_some, Option.toList_none, List.cons_append, List.nil_append]
    rw [e4]
    have et : (Int32.ofInt told ||| Int32.ofInt (Int32.ofInt 1 <<< (Int32.ofInt v1 &&& 31)).toInt).toInt = sf_tn2 told v1 := rfl
    simp only [q52_64, q52_65, q52_66, q52_69, q52_70, q52_71, q52_72, q52_73, q52_76, q52_77, q52_80, q52_83, q52_84, q52_85, q52_88, q52_89, q52_92, q52_95, q52_96, q52_98, q52_101, c0, c2, r2, r3, t4, s32, et, hW, Option.toList_some, Option.toList_none, List.cons_append, List.nil_append]
  have x40 : sf_upd V (sf_rf 0 0) 5 (j : Int) (sf_rf 0 0) 4 = 0 := by rw [sf_upd_ne2 (by decide)]; exact hx4
  have x30 : sf_upd V (sf_rf 0 0) 5 (j : Int) (sf_rf 0 0) 3 = -1 := by rw [sf_upd_ne2 (by decide)]; exact hx3
  rw [x40, if_pos rfl] at q1
  rw [x40, x30] at w1
  have w1' : V1 (sf_rf 0 0) 3 = if ¬ sf_nb 0 5 j k1 v1 = 0 then (j : Int) else -1 := by
    rw [w1]
    by_cases z : sf_nb 0 5 j k1 v1 = 0
    · rw [if_neg (fun y => y.2 z), if_neg (fun y => y z)]
    · rw [if_pos ⟨rfl, z⟩, if_pos z]
  exact ⟨V4, W, G4, hW, p4, sf_f5_chain q1 w1' q1b w1b q2 w2 q3 w3 q4' w4, clsW⟩
end SFP33
