/-! laws: the reference -/
section SFP24
variable {V X Y : sf_MV} {n nx c ce cf cg a k m : Nat} {v : Int} {f : Nat → Int} {K : Option sf_V → sf_M → Prop}
theorem sf_likes_pln {S : Nat → Int} {p : Int} (h : ¬ (k = 2 ∨ k = 3)) : sf_likes n S (k : Int) p = sf_pln k p (S 0) n := by
  unfold sf_likes
  rw [if_neg (by omega), if_neg (by omega)]
theorem s155_in (R : sf_RR V n nx c ce cf cg) (hn : 0 < n) {e r : Int} {j : Nat} (hj : j < ce) {S : Nat → Int} (hS : S 0 = V (sf_rf 409 9) (4 * j + 2)) {M' : sf_M}
    : ∀ (m k : Nat) (G : Nat → Bool) (l5 : Option sf_V), 7 - k = m → k ≤ 7 →
    (∀ l5, sf_wp 18 none 155 128 [some (.inr (.inl (some 409))), some (.inl e), some (.inl (sf_fmk (fun l => G l && (decide (l < k) || sf_ng V n e l j)) 7).toInt), some (.inl (j : Int)), some (.inl 7), l5] [] (sf_E (sf_put V (sf_rf 409 28) 0 20 S)) K = K (some (.inl r)) M') →
    sf_wp 18 none 155 36 [some (.inr (.inl (some 409))), some (.inl e), some (.inl (sf_fmk G 7).toInt), some (.inl (j : Int)), some (.inl (k : Int)), l5] [] (sf_E (sf_put V (sf_rf 409 28) 0 20 S)) K = K (some (.inl r)) M' := by
  have hf := R.e
  have hn5 := R.a.n5
  have y9 := sf_c12_9 sf_y
  have c12 := hf.c12
  have rr := hf.r j hj
  have re := hf.e j hj
  have k9 := sf_so_k (V := V) (S := S) (k := 9) (by decide)
  have w4 : sf_w (4 * (j : Int)) = ((4 * j : Nat) : Int) := by rw [sf_w_small (by omega)]; omega
  have w41 : sf_w (((4 * j : Nat) : Int) + 1) = ((4 * j + 1 : Nat) : Int) := sf_wS (by omega)
  have w43 : sf_w (((4 * j : Nat) : Int) + 3) = ((4 * j + 3 : Nat) : Int) := by rw [sf_w_small (by omega)]; omega
  have b0 : 4 * j < 48 := by omega
  have b1 : 4 * j + 1 < 48 := by omega
  have b3 : 4 * j + 3 < 48 := by omega
  intro m
  induction m with
  | zero =>
    intro k G l5 hm hk hK
    simp only [q155_36, q155_38, q155_40]
    rw [if_pos (by omega), show (k : Int) = 7 by omega]
    have e1 : sf_fmk G 7 = sf_fmk (fun l => G l && (decide (l < k) || sf_ng V n e l j)) 7 := sf_fm_congr 7 (fun l hl _ => by
      simp [show l < k by omega])
    rw [e1]
    exact hK l5
  | succ m ih =>
    intro k G l5 hm hk hK
    have hk7 : k < 7 := by omega
    simp only [q155_36, q155_38, q155_40]
    rw [if_neg (by omega)]
    simp only [q155_43, q155_44, q155_47, q155_48, q155_49, q155_50, q155_51, q155_52, sf_y, y9, sf_y9, k9, w4, sf_bd, b0, true_and, Int.toNat_natCast, ← re.1]
    -- a law that stands
    have good : (k = 2 ∨ k = 3) ∨ sf_ng V n e k j = true → ∀ l5, sf_wp 18 none 155 101 [some (.inr (.inl (some 409))), some (.inl e), some (.inl (sf_fmk G 7).toInt), some (.inl (j : Int)), some (.inl (k : Int)), l5] [.inl 0] (sf_E (sf_put V (sf_rf 409 28) 0 20 S)) K = K (some (.inl r)) M' := fun hg l5 => by
      simp only [q155_101, q155_103, q155_104]
      rw [q155_106, if_pos rfl]
      simp only [q155_118, q155_120, q155_121, q155_122]
      rw [q155_125, sf_wS (by omega), sf_i32, sf_fm_and]
      refine ih (k + 1) G _ (by omega) (by omega) (fun l5 => ?_)
      have e1 : sf_fmk (fun l => G l && (decide (l < k) || sf_ng V n e l j)) 7 = sf_fmk (fun l => G l && (decide (l < k + 1) || sf_ng V n e l j)) 7 := sf_fm_congr 7 (fun l hl h23 => by
        by_cases q : l = k
        · subst q
          rcases hg with hg | hg
          · exact absurd hg h23
          · simp [hg]
        · rw [show decide (l < k + 1) = decide (l < k) from decide_eq_decide.2 (by omega)])
      rw [← e1]
      exact hK l5
    by_cases h0 : V (sf_rf (sf_rf (sf_rf 0 8) 0) 0) j = e
    · rw [if_pos h0]
      simp only [q155_55, q155_57, q155_58]
      by_cases h2 : k = 2
      · rw [if_pos (by omega)]
        simp only [q155_100]
        exact good (Or.inl (Or.inl h2)) _
      rw [if_neg (by omega)]
      simp only [q155_61, q155_63, q155_64]
      by_cases h3 : k = 3
      · rw [if_pos (by omega)]
        simp only [q155_100]
        exact good (Or.inl (Or.inr h3)) _
      rw [if_neg (by omega)]
      have h23 : ¬ (k = 2 ∨ k = 3) := by omega
      simp only [q155_67, q155_68, q155_70, q155_71, q155_74, q155_75, q155_76, q155_77, q155_78, q155_79, q155_80, sf_y, y9, sf_y9, k9, w4, w41, sf_bd, b1, true_and, Int.toNat_natCast, Option.toList_some, Option.toList_none, List.cons_append, List.nil_append]
      rw [s123s R.a.yn hn hn5 (by omega) rr.2.1 (by rw [hS]; exact rr.2.2.1), sf_likes_pln h23]
      simp only [q155_83, q155_84, q155_87, q155_88, q155_89, q155_90, q155_91, q155_92, q155_93, sf_y, y9, sf_y9, k9, w4, w43, sf_bd, b3, true_and, Int.toNat_natCast, Option.toList_some, Option.toList_none, List.cons_append, List.nil_append]
      rw [← re.2.1, hS, ← re.2.2.1, ← re.2.2.2]
      by_cases h1 : sf_pln k (V (sf_rf (sf_rf (sf_rf 0 8) 1) 0) j) (V (sf_rf (sf_rf (sf_rf 0 8) 2) 0) j) n = V (sf_rf (sf_rf (sf_rf 0 8) 3) 0) j
      · rw [if_pos h1]
        simp only [q155_100]
        exact good (Or.inr (decide_eq_true (Or.inr h1))) _
      · rw [if_neg h1]
        have hg : sf_ng V n e k j = false := decide_eq_false (fun z => by rcases z with z | z; exact z h0; exact h1 z)
        simp only [q155_96, q155_97, q155_101, q155_103, q155_104]
        rw [q155_106, if_neg (by decide)]
        simp only [q155_109, q155_110, q155_112, q155_113, q155_114, q155_115, q155_120, q155_121, q155_122]
        rw [q155_125, sf_wS (by omega), sf_i32, sf_i32, sf_i32]
        have e0 : sf_fmk G 7 &&& (Int32.ofInt 1 <<< (Int32.ofInt (k : Int) &&& 31) ^^^ Int32.ofInt (-1)) = sf_fmk (fun l => G l && (l != k)) 7 := sf_fm_clr hk7
        rw [e0]
        refine ih (k + 1) (fun l => G l && (l != k)) _ (by omega) (by omega) (fun l5 => ?_)
        have e1 : sf_fmk (fun l => G l && (decide (l < k) || sf_ng V n e l j)) 7 = sf_fmk (fun l => (G l && (l != k)) && (decide (l < k + 1) || sf_ng V n e l j)) 7 := sf_fm_congr 7 (fun l hl h23 => by
          by_cases q : l = k
          · subst q
            simp [hg]
          · rw [show decide (l < k + 1) = decide (l < k) from decide_eq_decide.2 (by omega)]
            have q1 : (l != k) = true := bne_iff_ne.2 q
            rw [q1, Bool.and_true])
        rw [← e1]
        exact hK l5
    · rw [if_neg h0]
      simp only [q155_100]
      exact good (Or.inr (decide_eq_true (Or.inl h0))) _
theorem s155_out (R : sf_RR V n nx c ce cf cg) {e : Int} : ∀ (m j : Nat) (S : Nat → Int), ce - j = m → j ≤ ce →
    ∃ S', ∀ K l4 l5, sf_wp 18 none 155 9 [some (.inr (.inl (some 409))), some (.inl e), some (.inl (sf_fmk (fun l => sf_alw (sf_ng V n e l) 0 j) 7).toInt), some (.inl (j : Int)), l4, l5] [] (sf_E (sf_put V (sf_rf 409 28) 0 20 S)) K = K (some (.inl (sf_fmk (fun l => sf_alw (sf_ng V n e l) 0 ce) 7).toInt)) (sf_E (sf_put V (sf_rf 409 28) 0 20 S')) := by
  have hf := R.e
  have y9 := sf_c12_9 sf_y
  have y28 := sf_c12_28 sf_y
  have c12 := hf.c12
  intro m
  induction m with
  | zero =>
    intro j S hm hj
    refine ⟨S, fun K l4 l5 => ?_⟩
    simp only [q155_9, q155_10, q155_11, q155_14, sf_y, sf_so_y, hf.y]
    rw [if_pos (by omega), show j = ce by omega]
    simp only [q155_134, q155_135]
  | succ m ih =>
    intro j S hm hj
    obtain ⟨S', hS'⟩ := ih (j + 1) (sf_ru S 0 (V (sf_rf 409 9) (4 * j + 2))) (by omega) (by omega)
    have hn : 0 < n := by
      have := hf.r j (by omega)
      omega
    refine ⟨S', fun K l4 l5 => ?_⟩
    have k9 := sf_so_k (V := V) (S := S) (k := 9) (by decide)
    have w4 : sf_w (4 * (j : Int)) = ((4 * j : Nat) : Int) := by rw [sf_w_small (by omega)]; omega
    have w42 : sf_w (((4 * j : Nat) : Int) + 2) = ((4 * j + 2 : Nat) : Int) := by rw [sf_w_small (by omega)]; omega
    have b2 : 4 * j + 2 < 48 := by omega
    simp only [q155_9, q155_10, q155_11, q155_14, sf_y, sf_so_y, hf.y]
    rw [if_neg (by omega)]
    simp (decide := true) only [q155_17, q155_18, q155_21, q155_22, q155_23, q155_26, q155_27, q155_28, q155_29, q155_30, q155_31, q155_32, q155_33, q155_34, sf_y, y9, sf_y9, y28, sf_y28, k9, w4, w42, sf_bd, b2, true_and, Int.toNat_natCast, Int.reduceToNat]
    rw [sf_put_ru (by decide)]
    refine s155_in R hn (j := j) (by omega) sf_ru_eq 7 0 _ _ rfl (by omega) (fun l5 => ?_)
    simp only [q155_128]
    rw [q155_131, sf_wS (by omega)]
    have e1 : sf_fmk (fun l => sf_alw (sf_ng V n e l) 0 j && (decide (l < 0) || sf_ng V n e l j)) 7 = sf_fmk (fun l => sf_alw (sf_ng V n e l) 0 (j + 1)) 7 := sf_fm_congr 7 (fun l hl _ => by
      rw [sf_al_snoc, Nat.zero_add]
      simp)
    rw [e1]
    exact hS' K _ _
theorem s155 (R : sf_RR V n nx c ce cf cg) {e : Int} : ∃ S', ∀ K, sf_wp 18 none 155 0 [some (.inr (.inl (some 409))), some (.inl e), none, none, none, none] [] (sf_E V) K = K (some (.inl (sf_fmk (fun l => sf_alw (sf_ng V n e l) 0 ce) 7).toInt)) (sf_E (sf_put V (sf_rf 409 28) 0 20 S')) := by
  obtain ⟨S', h⟩ := s155_out R (e := e) ce 0 (V (sf_rf 409 4)) (by omega) (by omega)
  refine ⟨S', fun K => ?_⟩
  simp only [q155_0, q155_1, sf_y]
  rw [s122]
  simp only [q155_4, q155_6, q155_7, q155_8, Option.toList_some, Option.toList_none, List.cons_append, List.nil_append]
  have e1 : (sf_fmk (fun l => sf_alw (sf_ng V n e l) 0 0) 7).toInt = 115 := by
    have : sf_fmk (fun l => sf_alw (sf_ng V n e l) 0 0) 7 = sf_fmk (fun _ => true) 7 := rfl
    rw [this]
    decide +kernel
  have h1 := h K none none
  rw [e1] at h1
  exact h1
theorem p_laws (R : sf_RR V n nx c ce cf cg) {e : Int} : sf_P2 82 156 [some (.inl e)] [some (.inl e)] V := by
  have c1 := sf_c11_1 sf_x
  have c8 := sf_c11_8 sf_x
  have ha := R.a
  by_cases hp : 0 ≤ e ∧ e < 6
  · obtain ⟨S', h⟩ := s155 R (e := e)
    refine ⟨(sf_fmk (fun l => sf_alw (sf_ng V n e l) 0 ce) 7).toInt, V, sf_put V (sf_rf 409 28) 0 20 S', n, nx, c, ce, cf, cg, ?_, ?_, sf_RR_so R⟩
    · intro K
      simp only [q82_0, q82_1, s92, q82_4, Option.toList_some, Option.toList_none, List.cons_append, List.nil_append]
      rw [if_pos hp, if_neg (by decide)]
      simp only [q82_7, q82_8, q82_11, q82_12, q82_13, q82_16, q82_19, sf_x, c1, c8, ha.xn]
      rw [s11 (d := 16) R]
      simp only [q82_22, q82_27, Option.toList_some, Option.toList_none, List.cons_append, List.nil_append]
    · intro K
      simp only [q156_0, q156_1, s118, q156_4, Option.toList_some, Option.toList_none, List.cons_append, List.nil_append]
      rw [sf_inB_y (by omega), if_neg (by decide)]
      simp only [q156_7, q156_8, q156_9, sf_y, h, q156_12, q156_17, Option.toList_some, Option.toList_none, List.cons_append, List.nil_append]
  · refine ⟨-1000000001, V, V, n, nx, c, ce, cf, cg, ?_, ?_, R⟩
    · intro K
      simp only [q82_0, q82_1, s92, q82_4, Option.toList_some, Option.toList_none, List.cons_append, List.nil_append]
      rw [if_neg hp, if_pos rfl]
      simp only [q82_25, q82_27]
    · intro K
      simp only [q156_0, q156_1, s118, q156_4, Option.toList_some, Option.toList_none, List.cons_append, List.nil_append]
      rw [sf_inB_n (by omega), if_pos rfl]
      simp only [q156_15, q156_17]
end SFP24
