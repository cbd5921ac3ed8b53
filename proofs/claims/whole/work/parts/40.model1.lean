/-! the reference: its object is 409; its rows are arrays of it -/
theorem sf_y : sf_cls 409 = 12 := by decide +kernel
theorem sf_y2 : sf_len (sf_rf 409 2) = 5 := by decide +kernel
theorem sf_y3 : sf_len (sf_rf 409 3) = 6 := by decide +kernel
theorem sf_y4 : sf_len (sf_rf 409 4) = 20 := by decide +kernel
theorem sf_y5 : sf_len (sf_rf 409 5) = 600 := by decide +kernel
theorem sf_y7 : sf_len (sf_rf 409 7) = 40 := by decide +kernel
theorem sf_y8 : sf_len (sf_rf 409 8) = 2 := by decide +kernel
theorem sf_y9 : sf_len (sf_rf 409 9) = 48 := by decide +kernel
theorem sf_y11 : sf_len (sf_rf 409 11) = 40 := by decide +kernel
theorem sf_y13 : sf_len (sf_rf 409 13) = 200 := by decide +kernel
theorem sf_y19 : sf_len (sf_rf 409 19) = 5 := by decide +kernel
theorem sf_y20 : sf_len (sf_rf 409 20) = 5 := by decide +kernel
theorem sf_y21 : sf_len (sf_rf 409 21) = 6 := by decide +kernel
theorem sf_y22 : sf_len (sf_rf 409 22) = 6 := by decide +kernel
theorem sf_y23 : sf_len (sf_rf 409 23) = 3 := by decide +kernel
theorem sf_y28 : sf_len (sf_rf 409 28) = 20 := by decide +kernel
theorem sf_y29 : sf_len (sf_rf 409 29) = 100 := by decide +kernel
theorem sf_y30 : sf_len (sf_rf 409 30) = 5 := by decide +kernel
theorem sf_y31 : sf_len (sf_rf 409 31) = 4 := by decide +kernel
theorem sf_y34 : sf_len (sf_rf 409 34) = 5 := by decide +kernel
theorem sf_y35 : sf_len (sf_rf 409 35) = 606 := by decide +kernel
theorem sf_y36 : sf_len (sf_rf 409 36) = 500 := by decide +kernel
theorem sf_y39 : sf_len (sf_rf 409 39) = 5 := by decide +kernel
section SFL
variable {V : sf_MV} {a b n : Nat} {S : Nat → Int}
/-- the lens of an array: all its n places -/
theorem sf_put_self : sf_put V a 0 n (V a) = V := by
  funext c j
  unfold sf_put
  split
  · rename_i h; rw [h.1]
  · rfl
theorem sf_put_at {j : Nat} (h : j < n) : sf_put V a 0 n S a j = S j := by
  unfold sf_put
  rw [if_pos ⟨rfl, Nat.zero_le _, h⟩]
theorem sf_put_ru {j : Nat} {v : Int} (h : j < n) : sf_upd (sf_put V a 0 n S) a j v = sf_put V a 0 n (sf_ru S j v) := by
  funext c k
  unfold sf_upd sf_put sf_ru
  by_cases h1 : c = a
  · subst h1
    by_cases h2 : k = j
    · subst h2; simp [h]
    · simp [h2]
  · simp [h1]
theorem sf_put_put {T : Nat → Int} : sf_put (sf_put V a 0 n S) a 0 n T = sf_put V a 0 n T := by
  funext c k
  unfold sf_put
  split <;> rfl
theorem sf_put_ext {T : Nat → Int} (h : ∀ j, j < n → S j = T j) : sf_put V a 0 n S = sf_put V a 0 n T := by
  funext c k
  unfold sf_put
  split
  · rename_i q; exact h k q.2.2
  · rfl
end SFL
theorem s101 {d : Nat} {M : sf_M} {a b : Int} {K : Option sf_V → sf_M → Prop} : sf_wp d none 101 0 [some (.inl a), some (.inl b)] [] M K = K (some (.inl (if a < b then a else b))) M := by
  simp only [q101_0, q101_1, q101_2, q101_5, q101_6, q101_9, q101_10]
  by_cases h : a < b
  · rw [if_pos h, if_neg (by omega)]
  · rw [if_neg h, if_pos (by omega)]
theorem s102 {d : Nat} {M : sf_M} {a b : Int} {K : Option sf_V → sf_M → Prop} : sf_wp d none 102 0 [some (.inl a), some (.inl b)] [] M K = K (some (.inl (if b < a then a else b))) M := by
  simp only [q102_0, q102_1, q102_2, q102_5, q102_6, q102_9, q102_10]
  by_cases h : b < a
  · rw [if_pos h, if_neg (by omega)]
  · rw [if_neg h, if_pos (by omega)]
theorem sf_inB01 (a b c : Int) : (sf_inB a b c = 0 ∨ sf_inB a b c = 1) = True := by
  unfold sf_inB
  split <;> simp
theorem s117 {d : Nat} {V : sf_MV} {p : Int} {K : Option sf_V → sf_M → Prop} (hn : -1000 ≤ V 409 0 ∧ V 409 0 ≤ 1000) : sf_wp d none 117 0 [some (.inr (.inl (some 409))), some (.inl p)] [] (sf_E V) K = K (some (.inl (sf_inB p 0 (V 409 0 - 1)))) (sf_E V) := by
  simp only [q117_0, q117_1, q117_2, q117_3, q117_4, q117_7, q117_8, q117_9, q117_10, q117_13, sf_y, sf_inB01, true_and]
  rw [sf_w_small (by omega)]
theorem s118 {d : Nat} {M : sf_M} {p : Int} {K : Option sf_V → sf_M → Prop} : sf_wp d none 118 0 [some (.inl p)] [] M K = K (some (.inl (sf_inB p 0 5))) M := by
  simp only [q118_0, q118_1, q118_2, q118_3, q118_6, q118_9, sf_inB01, true_and]
theorem s122_loop {d : Nat} {K : Option sf_V → sf_M → Prop} : ∀ (m k : Nat) (V : sf_MV), 20 - k = m → k ≤ 20 →
    sf_wp d none 122 2 [some (.inr (.inl (some 409))), some (.inl (k : Int))] [] (sf_E V) K = K none (sf_E (sf_put V (sf_rf 409 28) k 20 (V (sf_rf 409 4)))) := by
  have c1 := sf_c12_28 sf_y
  have c2 := sf_c12_4 sf_y
  intro m
  induction m with
  | zero =>
    intro k V hm hk
    simp only [q122_2, q122_3, q122_5, q122_26]
    rw [if_pos (by omega), sf_put_nil (by omega)]
  | succ m ih =>
    intro k V hm hk
    have hk20 : k < 20 := by omega
    simp only [q122_2, q122_3, q122_5, q122_8, q122_9, q122_12, q122_13, q122_14, q122_17, q122_18, q122_19, q122_20, sf_y, c1, c2, sf_y28, sf_y4, sf_bd, hk20, true_and, Int.toNat_natCast]
    rw [if_neg (by omega), q122_23, sf_wS (by omega), ih (k + 1) _ (by omega) (by omega)]
    rw [sf_upd_ne (b := sf_rf 409 4) (by simp [sf_rf_inj]), sf_put_step (by omega)]
theorem s122 {d : Nat} {V : sf_MV} {K : Option sf_V → sf_M → Prop} : sf_wp d none 122 0 [some (.inr (.inl (some 409))), none] [] (sf_E V) K = K none (sf_E (sf_put V (sf_rf 409 28) 0 20 (V (sf_rf 409 4)))) := by
  simp only [q122_0, q122_1]
  exact s122_loop 20 0 V rfl (by omega)
theorem sf_tm {a n : Int} (h0 : 0 ≤ a) (h1 : a < n) : a.tmod n = a := Int.tmod_eq_of_lt h0 h1
theorem sf_tm1 {a n : Int} (h0 : 0 ≤ a) (h1 : a < n) : (a + 1).tmod n = if a + 1 < n then a + 1 else 0 := by
  by_cases h : a + 1 < n
  · rw [if_pos h, sf_tm (by omega) h]
  · rw [if_neg h, show a + 1 = n by omega, Int.tmod_self]
theorem sf_tm2 {a n : Int} (h0 : 0 ≤ a) (h1 : a < n) : (a + n - 1).tmod n = if 0 < a then a - 1 else n - 1 := by
  by_cases h : 0 < a
  · rw [if_pos h, Int.tmod_eq_emod_of_nonneg (by omega), show a + n - 1 = (a - 1) + n by omega, Int.add_emod_right, Int.emod_eq_of_lt (by omega) (by omega)]
  · rw [if_neg h, show a + n - 1 = n - 1 by omega, sf_tm (by omega) (by omega)]
theorem sf_n4 {p : Nat} (h : p < 1000) : sf_w (4 + (p : Int)) = ((p + 4 : Nat) : Int) := by rw [sf_w_small (by omega)]; omega
theorem sf_n9 {p : Nat} (h : p < 1000) : sf_w (9 + (p : Int)) = ((p + 9 : Nat) : Int) := by rw [sf_w_small (by omega)]; omega
theorem sf_n14 {p : Nat} (h : p < 1000) : sf_w (14 + (p : Int)) = ((p + 14 : Nat) : Int) := by rw [sf_w_small (by omega)]; omega
theorem sf_least_succ {f : Nat → Int} {k : Nat} (h : 1 ≤ k) : sf_least f (k + 1) = if f k < f (sf_least f k) then k else sf_least f k := by
  rw [sf_least, if_neg (by omega)]
theorem s123_loop {d n : Nat} {V : sf_MV} {rule p d0 : Int} {K : Option sf_V → sf_M → Prop} (hn : V 409 0 = (n : Int)) (hn5 : n ≤ 5) : ∀ (m k : Nat), n - k = m → 1 ≤ k → k ≤ n →
    sf_wp d none 123 16 [some (.inr (.inl (some 409))), some (.inl rule), some (.inl p), some (.inl d0), some (.inl (sf_least (fun j => V (sf_rf 409 28) (j + 4)) k : Int)), some (.inl (sf_least (fun j => V (sf_rf 409 28) (j + 9)) k : Int)), some (.inl (k : Int))] [] (sf_E V) K =
    sf_wp d none 123 93 [some (.inr (.inl (some 409))), some (.inl rule), some (.inl p), some (.inl d0), some (.inl (sf_least (fun j => V (sf_rf 409 28) (j + 4)) n : Int)), some (.inl (sf_least (fun j => V (sf_rf 409 28) (j + 9)) n : Int)), some (.inl (n : Int))] [] (sf_E V) K := by
  have c1 := sf_c12_28 sf_y
  intro m
  induction m with
  | zero =>
    intro k hm h1 hk
    simp only [q123_16, q123_18, q123_19, q123_22, sf_y, hn]
    rw [if_pos (by omega), show k = n by omega]
  | succ m ih =>
    intro k hm h1 hk
    have l1 := sf_least_lt (fun j => V (sf_rf 409 28) (j + 4)) k
    have l2 := sf_least_lt (fun j => V (sf_rf 409 28) (j + 9)) k
    have ih2 := ih (k + 1) (by omega) (by omega) (by omega)
    rw [sf_least_succ h1, sf_least_succ h1] at ih2
    generalize e1 : sf_least (fun j => V (sf_rf 409 28) (j + 4)) k = u at l1 ih2 ⊢
    generalize e2 : sf_least (fun j => V (sf_rf 409 28) (j + 9)) k = w at l2 ih2 ⊢
    have b1 : k + 4 < 20 := by omega
    have b2 : u + 4 < 20 := by omega
    have b3 : k + 9 < 20 := by omega
    have b4 : w + 9 < 20 := by omega
    simp only [q123_16, q123_18, q123_19, q123_22, q123_25, q123_26, q123_29, q123_30, q123_32, q123_33, q123_34, q123_35, q123_38, q123_39, q123_41, q123_42, q123_43, sf_y, c1, hn, sf_y28, sf_n4 (show k < 1000 by omega), sf_n4 (show u < 1000 by omega), sf_bd, b1, b2, true_and, Int.toNat_natCast]
    rw [if_neg (by omega)]
    by_cases q1 : V (sf_rf 409 28) (k + 4) < V (sf_rf 409 28) (u + 4)
    · rw [if_neg (by omega)]
      rw [if_pos q1] at ih2
      simp only [q123_46, q123_48, q123_51, q123_53, q123_55, q123_56, q123_59, q123_61, q123_63, q123_64, q123_65, q123_66, q123_69, q123_71, q123_73, q123_74, q123_75, sf_y, c1, sf_y28, sf_n9 (show k < 1000 by omega), sf_n9 (show w < 1000 by omega), sf_bd, b3, b4, true_and, Int.toNat_natCast]
      by_cases q2 : V (sf_rf 409 28) (k + 9) < V (sf_rf 409 28) (w + 9)
      · rw [if_neg (by omega)]
        rw [if_pos q2] at ih2
        simp only [q123_78, q123_80, q123_83, q123_85, q123_87]
        rw [q123_90, sf_wS (by omega)]
        exact ih2
      · rw [if_pos (by omega)]
        rw [if_neg q2] at ih2
        simp only [q123_83, q123_85, q123_87]
        rw [q123_90, sf_wS (by omega)]
        exact ih2
    · rw [if_pos (by omega)]
      rw [if_neg q1] at ih2
      simp only [q123_51, q123_53, q123_55, q123_56, q123_59, q123_61, q123_63, q123_64, q123_65, q123_66, q123_69, q123_71, q123_73, q123_74, q123_75, sf_y, c1, sf_y28, sf_n9 (show k < 1000 by omega), sf_n9 (show w < 1000 by omega), sf_bd, b3, b4, true_and, Int.toNat_natCast]
      by_cases q2 : V (sf_rf 409 28) (k + 9) < V (sf_rf 409 28) (w + 9)
      · rw [if_neg (by omega)]
        rw [if_pos q2] at ih2
        simp only [q123_78, q123_80, q123_83, q123_85, q123_87]
        rw [q123_90, sf_wS (by omega)]
        exact ih2
      · rw [if_pos (by omega)]
        rw [if_neg q2] at ih2
        simp only [q123_83, q123_85, q123_87]
        rw [q123_90, sf_wS (by omega)]
        exact ih2
theorem s123 {d n : Nat} {V : sf_MV} {rule p : Int} {K : Option sf_V → sf_M → Prop} (hn : V 409 0 = (n : Int)) (hn0 : 0 < n) (hn5 : n ≤ 5) (hr : 0 ≤ rule ∧ rule ≤ 6) (hp : 0 ≤ p ∧ p < n) (hd : 0 ≤ V (sf_rf 409 28) 0 ∧ V (sf_rf 409 28) 0 < n) :
    sf_wp d none 123 0 [some (.inr (.inl (some 409))), some (.inl rule), some (.inl p), none, none, none, none] [] (sf_E V) K = K (some (.inl (sf_likes n (V (sf_rf 409 28)) rule p))) (sf_E V) := by
  have c1 := sf_c12_28 sf_y
  simp (decide := true) only [q123_0, q123_1, q123_4, q123_5, q123_6, q123_7, q123_8, q123_10, q123_11, q123_13, q123_14, sf_y, c1, sf_y28, true_and, Int.reduceToNat]
  have hl := s123_loop (d := d) (V := V) (rule := rule) (p := p) (d0 := V (sf_rf 409 28) 0) (K := K) hn hn5 (n - 1) 1 rfl (by omega) hn0
  have z1 : sf_least (fun j => V (sf_rf 409 28) (j + 4)) 1 = 0 := rfl
  have z2 : sf_least (fun j => V (sf_rf 409 28) (j + 9)) 1 = 0 := rfl
  rw [z1, z2] at hl
  refine Eq.trans hl ?_
  unfold sf_likes sf_pln
  have hn1 : ¬ ((n : Int) = 0) := by omega
  have m1 := sf_tm1 hd.1 hd.2
  have m2 := sf_tm2 hd.1 hd.2
  have m3 := sf_tm1 hp.1 hp.2
  simp only [q123_93, q123_94, q123_97, q123_98, q123_101, q123_102, q123_103, q123_106, q123_107, q123_108, q123_109, q123_110, q123_113, q123_114, q123_117, q123_118, q123_119, q123_122, q123_124, q123_127, q123_129, q123_131, q123_132, q123_133, q123_136, q123_138, q123_141, q123_142, q123_143, q123_146, q123_147, q123_150, q123_151, q123_152, q123_155, q123_156, q123_157, q123_160, q123_161, q123_162, q123_163, q123_164, q123_167, q123_168, q123_171, q123_172, q123_173, q123_174, q123_175, q123_178, q123_179, sf_y, hn]
  rw [sf_w_small (n := V (sf_rf 409 28) 0 + 1) (by omega), sf_w_small (n := V (sf_rf 409 28) 0 + (n : Int)) (by omega), sf_w_small (n := p + 1) (by omega), sf_w_small (n := V (sf_rf 409 28) 0 + (n : Int) - 1) (by omega), m1, m2, m3]
  simp only [hn1, not_false_eq_true, true_and]
  have : rule = 0 ∨ rule = 1 ∨ rule = 2 ∨ rule = 3 ∨ rule = 4 ∨ rule = 5 ∨ rule = 6 := by omega
  rcases this with rfl | rfl | rfl | rfl | rfl | rfl | rfl <;> simp
