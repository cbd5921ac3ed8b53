/-! the reference: doesIt, goesBy, frozenOne, lies, stands -/
theorem sf_likes_ru1 {n : Nat} {S : Nat → Int} {v k p : Int} : sf_likes n (sf_ru S 1 v) k p = sf_likes n S k p := by
  unfold sf_likes
  have h1 : (fun j => sf_ru S 1 v (j + 4)) = fun j => S (j + 4) := by funext j; unfold sf_ru; rw [if_neg (by omega)]
  have h2 : (fun j => sf_ru S 1 v (j + 9)) = fun j => S (j + 9) := by funext j; unfold sf_ru; rw [if_neg (by omega)]
  have h3 : sf_ru S 1 v 0 = S 0 := by unfold sf_ru; rw [if_neg (by omega)]
  rw [h1, h2, h3]
section SFM2
variable {V : sf_MV} {S : Nat → Int} {K : Option sf_V → sf_M → Prop}
theorem sf_so_ne {b : Nat} (h : ¬ b = sf_rf 409 28) : sf_put V (sf_rf 409 28) 0 20 S b = V b := sf_put_ne h
theorem sf_so_y : sf_put V (sf_rf 409 28) 0 20 S 409 = V 409 := sf_put_ne (by simp [sf_Yne_rf])
theorem sf_so_k {k : Nat} (h : ¬ k = 28) : sf_put V (sf_rf 409 28) 0 20 S (sf_rf 409 k) = V (sf_rf 409 k) := sf_put_ne (by simp [sf_rf_inj, h])
theorem s124 {d n e : Nat} {p : Int} (hn : V 409 0 = (n : Int)) (hn0 : 0 < n) (hn5 : n ≤ 5) (he : e < 6) (hr : 0 ≤ S (e + 14) ∧ S (e + 14) ≤ 6) (hp : 0 ≤ p ∧ p < n) (hd : 0 ≤ S 0 ∧ S 0 < n) (h1 : -100000 ≤ S 1 ∧ S 1 ≤ 100000) (hc : 0 ≤ V (sf_rf 409 3) e ∧ V (sf_rf 409 3) e ≤ 9) :
    sf_wp (d + 1) none 124 0 [some (.inr (.inl (some 409))), some (.inl (e : Int)), some (.inl p)] [] (sf_E (sf_put V (sf_rf 409 28) 0 20 S)) K = K none (sf_E (sf_put V (sf_rf 409 28) 0 20 (sf_ru (sf_ru S 1 (S 1 - V (sf_rf 409 3) e)) 0 (sf_likes n S (S (e + 14)) p)))) := by
  have c1 := sf_c12_28 sf_y
  have c2 := sf_c12_3 sf_y
  have b1 : e + 14 < 20 := by omega
  have k3 : sf_put V (sf_rf 409 28) 0 20 S (sf_rf 409 3) = V (sf_rf 409 3) := sf_so_k (by decide)
  have x1 : sf_put V (sf_rf 409 28) 0 20 S (sf_rf 409 28) 1 = S 1 := sf_put_at (by decide)
  simp (decide := true) only [q124_0, q124_1, q124_4, q124_5, q124_6, q124_7, q124_8, q124_11, q124_12, q124_13, q124_14, sf_y, c1, c2, sf_y28, sf_y3, sf_bd, he, true_and, Int.reduceToNat, Int.toNat_natCast, k3, x1]
  rw [sf_w_small (by omega), sf_put_ru (by decide)]
  generalize hT : sf_ru S 1 (S 1 - V (sf_rf 409 3) e) = T
  have x2 : sf_put V (sf_rf 409 28) 0 20 T (sf_rf 409 28) (e + 14) = S (e + 14) := by
    rw [sf_put_at (by omega), ← hT]
    unfold sf_ru
    rw [if_neg (by omega)]
  have x3 : sf_put V (sf_rf 409 28) 0 20 T 409 = V 409 := sf_so_y
  simp (decide := true) only [q124_15, q124_16, q124_19, q124_20, q124_21, q124_22, q124_25, q124_27, q124_28, q124_29, q124_30, q124_31, sf_y, c1, sf_y28, sf_n14 (show e < 1000 by omega), sf_bd, b1, true_and, Int.toNat_natCast, x2]
  have x4 : sf_put V (sf_rf 409 28) 0 20 T (sf_rf 409 28) 0 = S 0 := by
    rw [sf_put_at (by omega), ← hT]
    unfold sf_ru
    rw [if_neg (by omega)]
  rw [s123 (by rw [x3]; exact hn) hn0 hn5 hr hp (by rw [x4]; exact hd)]
  simp (decide := true) only [q124_34, q124_35, sf_y, c1, sf_y28, true_and, Int.reduceToNat, Option.toList_some, Option.toList_none, List.cons_append, List.nil_append]
  rw [sf_put_ru (by decide)]
  have x5 : sf_likes n (sf_put V (sf_rf 409 28) 0 20 T (sf_rf 409 28)) (S (e + 14)) p = sf_likes n S (S (e + 14)) p := by
    rw [← sf_likes_ru1 (S := S) (v := S 1 - V (sf_rf 409 3) e), hT]
    unfold sf_likes
    have h1 : sf_least (fun j => sf_put V (sf_rf 409 28) 0 20 T (sf_rf 409 28) (j + 4)) n = sf_least (fun j => T (j + 4)) n := sf_least_congr n (fun j hj => sf_put_at (by omega))
    have h2 : sf_least (fun j => sf_put V (sf_rf 409 28) 0 20 T (sf_rf 409 28) (j + 9)) n = sf_least (fun j => T (j + 9)) n := sf_least_congr n (fun j hj => sf_put_at (by omega))
    have h3 : sf_put V (sf_rf 409 28) 0 20 T (sf_rf 409 28) 0 = T 0 := sf_put_at (by omega)
    rw [h1, h2, h3]
  rw [x5]
/-- the reference's hour, p persons done, the hour not yet counted -/
def sf_hr (m : Nat) (gain : Int) (cold : Nat → Int) (S : Nat → Int) (t : Nat) : Nat → Int := fun k =>
  if 4 ≤ k ∧ k < 4 + m then (if k - 4 = t then (if S k + gain < 99 then S k + gain else 99) else (if 0 < S k - cold (k - 4) then S k - cold (k - 4) else 0)) else sf_ru S (t + 9) (S 2) k
theorem sf_hr_succ {p t : Nat} {gain v : Int} {cold : Nat → Int} (hv : v = if p = t then (if S (p + 4) + gain < 99 then S (p + 4) + gain else 99) else (if 0 < S (p + 4) - cold p then S (p + 4) - cold p else 0)) : sf_ru (sf_hr p gain cold S t) (p + 4) v = sf_hr (p + 1) gain cold S t := by
  funext k
  by_cases e : k = p + 4
  · subst e
    unfold sf_ru sf_hr
    rw [if_pos rfl, hv, if_pos (show 4 ≤ p + 4 ∧ p + 4 < 4 + (p + 1) by omega), Nat.add_sub_cancel]
  · have : sf_ru (sf_hr p gain cold S t) (p + 4) v k = sf_hr p gain cold S t k := by unfold sf_ru; rw [if_neg e]
    rw [this]
    unfold sf_hr
    by_cases h1 : 4 ≤ k ∧ k < 4 + p
    · rw [if_pos h1, if_pos (show 4 ≤ k ∧ k < 4 + (p + 1) by omega)]
    · rw [if_neg h1, if_neg (show ¬ (4 ≤ k ∧ k < 4 + (p + 1)) by omega)]
theorem sf_hr_end {n t : Nat} {gain : Int} {cold : Nat → Int} (hn : n ≤ 5) (hd : S 0 = (t : Int)) : sf_ru (sf_hr n gain cold S t) 2 (S 2 + 1) = sf_goes n gain cold S t := by
  funext k
  unfold sf_goes sf_turn sf_ru sf_hr
  by_cases k2 : k = 2
  · subst k2; simp
  · by_cases h1 : 4 ≤ k ∧ k < 4 + n
    · simp [k2, h1]
    · simp only [k2, h1, if_false]
      unfold sf_ru
      by_cases h3 : k = t + 9
      · simp [h3]
      · by_cases h4 : k = 0
        · subst h4; simp [hd]
        · simp [h3, h4]
theorem s125_loop {d n t : Nat} (hn : V 409 0 = (n : Int)) (hn5 : n ≤ 5) (ht : t < 5) (hg : 0 ≤ V 409 1 ∧ V 409 1 ≤ 20) (hc : ∀ p, p < 5 → 0 ≤ V (sf_rf 409 2) p ∧ V (sf_rf 409 2) p ≤ 9) (hw : ∀ p, p < 5 → 0 ≤ S (p + 4) ∧ S (p + 4) ≤ 99) :
    ∀ (m p : Nat), n - p = m → p ≤ n → sf_wp (d + 1) none 125 24 [some (.inr (.inl (some 409))), some (.inl (t : Int)), some (.inl (p : Int))] [] (sf_E (sf_put V (sf_rf 409 28) 0 20 (sf_hr p (V 409 1) (V (sf_rf 409 2)) S t))) K =
      sf_wp (d + 1) none 125 91 [some (.inr (.inl (some 409))), some (.inl (t : Int)), some (.inl (n : Int))] [] (sf_E (sf_put V (sf_rf 409 28) 0 20 (sf_hr n (V 409 1) (V (sf_rf 409 2)) S t))) K := by
  have c1 := sf_c12_28 sf_y
  have c2 := sf_c12_2 sf_y
  intro m
  induction m with
  | zero =>
    intro p hm hp
    simp only [q125_24, q125_25, q125_26, q125_29, sf_y, sf_so_y, hn]
    rw [if_pos (by omega), show p = n by omega]
  | succ m ih =>
    intro p hm hp
    have ih2 := ih (p + 1) (by omega) (by omega)
    have b1 : p + 4 < 20 := by omega
    have b2 : p < 5 := by omega
    have w1 := hw p (by omega)
    have w2 := hc p (by omega)
    have x1 : sf_put V (sf_rf 409 28) 0 20 (sf_hr p (V 409 1) (V (sf_rf 409 2)) S t) (sf_rf 409 28) (p + 4) = S (p + 4) := by
      rw [sf_put_at (by omega)]
      unfold sf_hr sf_ru
      rw [if_neg (by omega), if_neg (by omega)]
    have x2 : sf_put V (sf_rf 409 28) 0 20 (sf_hr p (V 409 1) (V (sf_rf 409 2)) S t) (sf_rf 409 2) = V (sf_rf 409 2) := sf_so_k (by decide)
    have x3 : ∀ v, sf_upd (sf_put V (sf_rf 409 28) 0 20 (sf_hr p (V 409 1) (V (sf_rf 409 2)) S t)) (sf_rf 409 28) (p + 4) v = sf_put V (sf_rf 409 28) 0 20 (sf_ru (sf_hr p (V 409 1) (V (sf_rf 409 2)) S t) (p + 4) v) := fun v => sf_put_ru (by omega)
    simp only [q125_24, q125_25, q125_26, q125_29, q125_32, q125_33, q125_36, q125_37, q125_38, q125_39, q125_40, q125_41, sf_y, sf_so_y, hn, c1]
    rw [if_neg (by omega)]
    by_cases hpt : (p : Int) = (t : Int)
    · rw [if_pos hpt]
      simp only [q125_44, q125_46, q125_47, q125_50, q125_51, q125_52, q125_53, q125_54, q125_55, q125_58, q125_59, q125_62, q125_65, q125_66, q125_67, q125_70, q125_71, q125_72, q125_73, q125_74, q125_75, q125_78, q125_79, q125_80, q125_81, q125_84, q125_85, sf_y, sf_so_y, c1, c2, sf_y28, sf_y2, sf_n4 (show p < 1000 by omega), sf_bd, b1, b2, true_and, Int.toNat_natCast, x1, x2, x3, s101, Option.toList_some, Option.toList_none, List.cons_append, List.nil_append]
      rw [q125_88, sf_wS (by omega), sf_hr_succ]
      · exact ih2
      · rw [sf_w_small (by omega), if_pos (show p = t by omega)]
        by_cases h9 : 99 < S (p + 4) + V 409 1
        · rw [if_pos h9, if_neg (by omega)]
        · rw [if_neg h9]
          by_cases h8 : S (p + 4) + V 409 1 < 99
          · rw [if_pos h8]
          · rw [if_neg h8]; omega
    · rw [if_neg hpt]
      simp only [q125_65, q125_66, q125_67, q125_70, q125_71, q125_72, q125_73, q125_74, q125_75, q125_78, q125_79, q125_80, q125_81, q125_84, q125_85, sf_y, sf_so_y, c1, c2, sf_y28, sf_y2, sf_n4 (show p < 1000 by omega), sf_bd, b1, b2, true_and, Int.toNat_natCast, x1, x2, x3, s102, Option.toList_some, Option.toList_none, List.cons_append, List.nil_append]
      rw [q125_88, sf_wS (by omega), sf_hr_succ]
      · exact ih2
      · rw [sf_w_small (by omega), if_neg (show ¬ p = t by omega)]
        by_cases h9 : S (p + 4) - V (sf_rf 409 2) p < 0
        · rw [if_pos h9, if_neg (by omega)]
        · rw [if_neg h9]
          by_cases h8 : 0 < S (p + 4) - V (sf_rf 409 2) p
          · rw [if_pos h8]
          · rw [if_neg h8]; omega
theorem s125 {d n t : Nat} (hn : V 409 0 = (n : Int)) (hn5 : n ≤ 5) (ht : t < 5) (hd : S 0 = (t : Int)) (hg : 0 ≤ V 409 1 ∧ V 409 1 ≤ 20) (hc : ∀ p, p < 5 → 0 ≤ V (sf_rf 409 2) p ∧ V (sf_rf 409 2) p ≤ 9) (hw : ∀ p, p < 5 → 0 ≤ S (p + 4) ∧ S (p + 4) ≤ 99) (h2 : -1000 ≤ S 2 ∧ S 2 ≤ 100000) :
    sf_wp (d + 1) none 125 0 [some (.inr (.inl (some 409))), none, none] [] (sf_E (sf_put V (sf_rf 409 28) 0 20 S)) K = K none (sf_E (sf_put V (sf_rf 409 28) 0 20 (sf_goes n (V 409 1) (V (sf_rf 409 2)) S t))) := by
  have c1 := sf_c12_28 sf_y
  have b1 : t + 9 < 20 := by omega
  have x0 : sf_put V (sf_rf 409 28) 0 20 S (sf_rf 409 28) 0 = (t : Int) := by rw [sf_put_at (by decide)]; exact hd
  have x2 : sf_put V (sf_rf 409 28) 0 20 S (sf_rf 409 28) 2 = S 2 := sf_put_at (by decide)
  simp (decide := true) only [q125_0, q125_1, q125_4, q125_5, q125_6, q125_7, q125_8, q125_11, q125_13, q125_14, q125_15, q125_16, q125_19, q125_20, q125_21, q125_22, q125_23, sf_y, c1, sf_y28, x0, x2, sf_n9 (show t < 1000 by omega), sf_bd, b1, true_and, Int.toNat_natCast, Int.reduceToNat]
  rw [sf_put_ru (by omega)]
  have e0 : sf_ru S (t + 9) (S 2) = sf_hr 0 (V 409 1) (V (sf_rf 409 2)) S t := by
    funext k
    unfold sf_hr
    rw [if_neg (by omega)]
  rw [e0]
  refine Eq.trans (s125_loop (d := d) hn hn5 ht hg hc hw n 0 rfl (Nat.zero_le _)) ?_
  have y2 : sf_put V (sf_rf 409 28) 0 20 (sf_hr n (V 409 1) (V (sf_rf 409 2)) S t) (sf_rf 409 28) 2 = S 2 := by
    rw [sf_put_at (by decide)]
    unfold sf_hr sf_ru
    rw [if_neg (by omega), if_neg (by omega)]
  simp (decide := true) only [q125_91, q125_92, q125_95, q125_96, q125_97, q125_98, q125_99, q125_100, q125_101, sf_y, c1, sf_y28, y2, true_and, Int.reduceToNat]
  rw [sf_w_small (by omega), sf_put_ru (by decide), sf_hr_end hn5 hd]
/-- the first p from k on, m at most, with f p = 0 -/
def sf_ff (f : Nat → Int) : Nat → Nat → Int
  | _, 0 => -1
  | k, m + 1 => if f k = 0 then (k : Int) else sf_ff f (k + 1) m
theorem s135_loop {d n : Nat} (hn : V 409 0 = (n : Int)) (hn5 : n ≤ 5) : ∀ (m p : Nat), n - p = m → p ≤ n → sf_wp d none 135 2 [some (.inr (.inl (some 409))), some (.inl (p : Int))] [] (sf_E (sf_put V (sf_rf 409 28) 0 20 S)) K = K (some (.inl (sf_ff (fun j => S (j + 4)) p m))) (sf_E (sf_put V (sf_rf 409 28) 0 20 S)) := by
  have c1 := sf_c12_28 sf_y
  intro m
  induction m with
  | zero =>
    intro p hm hp
    simp only [q135_2, q135_3, q135_4, q135_7, q135_29, q135_30, sf_y, sf_so_y, hn]
    rw [if_pos (by omega)]
    rfl
  | succ m ih =>
    intro p hm hp
    have b1 : p + 4 < 20 := by omega
    have x1 : sf_put V (sf_rf 409 28) 0 20 S (sf_rf 409 28) (p + 4) = S (p + 4) := sf_put_at (by omega)
    simp only [q135_2, q135_3, q135_4, q135_7, q135_10, q135_11, q135_14, q135_15, q135_16, q135_17, q135_18, q135_21, q135_22, q135_23, sf_y, sf_so_y, hn, c1, sf_y28, sf_n4 (show p < 1000 by omega), sf_bd, b1, true_and, Int.toNat_natCast, x1]
    rw [if_neg (by omega), sf_ff]
    by_cases h0 : S (p + 4) = 0
    · rw [if_pos h0, if_pos h0]
    · rw [if_neg h0, if_neg h0, q135_26, sf_wS (by omega)]
      exact ih (p + 1) (by omega) (by omega)
theorem s135 {d n : Nat} (hn : V 409 0 = (n : Int)) (hn5 : n ≤ 5) : sf_wp d none 135 0 [some (.inr (.inl (some 409))), none] [] (sf_E (sf_put V (sf_rf 409 28) 0 20 S)) K = K (some (.inl (sf_ff (fun j => S (j + 4)) 0 n))) (sf_E (sf_put V (sf_rf 409 28) 0 20 S)) := by
  simp only [q135_0, q135_1]
  exact s135_loop hn hn5 n 0 rfl (Nat.zero_le _)
end SFM2
