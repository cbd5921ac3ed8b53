/-! warmOnly, live -/
section SFT4
variable {V : sf_MV} {s h : Nat} {S : Nat → Int} {K : Option sf_V → sf_M → Prop}
theorem sf_turn_w {t p : Nat} (hp : p < 5) : sf_turn S t (p + 4) = S (p + 4) := by
  unfold sf_turn sf_ru
  rw [if_neg (by omega), if_neg (by omega), if_neg (by omega)]
theorem sf_goes_succ {p t : Nat} {gain v : Int} {cold : Nat → Int} (hv : v = if p = t then (if S (p + 4) + gain < 99 then S (p + 4) + gain else 99) else (if 0 < S (p + 4) - cold p then S (p + 4) - cold p else 0)) : sf_ru (sf_goes p gain cold S t) (p + 4) v = sf_goes (p + 1) gain cold S t := by
  funext k
  unfold sf_ru
  by_cases e : k = p + 4
  · subst e
    rw [if_pos rfl, hv]
    unfold sf_goes
    rw [if_pos (show 4 ≤ p + 4 ∧ p + 4 < 4 + (p + 1) by omega), Nat.add_sub_cancel]
  · rw [if_neg e]
    unfold sf_goes
    by_cases h1 : 4 ≤ k ∧ k < 4 + p
    · rw [if_pos h1, if_pos (show 4 ≤ k ∧ k < 4 + (p + 1) by omega)]
    · rw [if_neg h1, if_neg (show ¬ (4 ≤ k ∧ k < 4 + (p + 1)) by omega)]
theorem s44_loop {d n t : Nat} (hs : sf_cls s = 9) (hh : sf_cls h = 2) (hn : V h 4 = (n : Int)) (hn5 : n ≤ 5) (ht : t < 5) (hg : 0 ≤ V h 6 ∧ V h 6 ≤ 20) (hc : ∀ p, p < 5 → 0 ≤ V (sf_si h) p ∧ V (sf_si h) p ≤ 9) (hw : ∀ p, p < 5 → 0 ≤ S (p + 4) ∧ S (p + 4) ≤ 99) :
    ∀ (m p : Nat) (l4 l5 : Option sf_V), n - p = m → p ≤ n → sf_wp (d + 1) none 44 7 [some (.inr (.inl (some s))), some (.inr (.inl (some h))), some (.inl (t : Int)), some (.inl (p : Int)), l4, l5] [] (sf_E (sf_setS V s (sf_goes p (V h 6) (V (sf_si h)) S t))) K = K none (sf_E (sf_setS V s (sf_goes n (V h 6) (V (sf_si h)) S t))) := by
  obtain ⟨l1, l2, l3⟩ := sf_stoveLen hs
  obtain ⟨m1, m2, m3, m4⟩ := sf_homeLen hh
  have c0 := sf_c9_0 hs
  have c1 := sf_c2_1 hh
  have hh1 : ∀ T, sf_setS V s T h = V h := fun T => (sf_setS_home (j := 1) hs hh c1).1
  have hh2 : ∀ T, sf_setS V s T (sf_rf (sf_rf h 1) 0) = V (sf_rf (sf_rf h 1) 0) := fun T => (sf_setS_home (j := 1) hs hh c1).2
  intro m
  induction m with
  | zero =>
    intro p l4 l5 hm hp
    simp only [q44_7, q44_8, q44_9, q44_12, q44_78, hh, hh1, hn]
    rw [if_pos (by omega), show p = n by omega]
  | succ m ih =>
    intro p l4 l5 hm hp
    have rdw : ∀ T : Nat → Int, sf_rd (sf_setS V s T) (sf_rf (sf_rf s 0) 0) (p : Int) = T (p + 4) := fun T => by
      rw [sf_rd_nat (by omega)]
      exact sf_setS_w (by omega)
    have rdc : ∀ T : Nat → Int, sf_rd (sf_setS V s T) (sf_rf (sf_rf h 1) 0) (p : Int) = V (sf_si h) p := fun T => by
      rw [sf_rd_nat (by omega), hh2]
      rfl
    have wrw : ∀ (T : Nat → Int) (v : Int), sf_wr (sf_setS V s T) (sf_rf (sf_rf s 0) 0) (p : Int) v = sf_setS V s (sf_ru T (p + 4) v) := fun T v => by
      unfold sf_wr
      rw [if_pos (by omega), Int.toNat_natCast]
      exact sf_setS_uw (by omega)
    have eW : sf_goes p (V h 6) (V (sf_si h)) S t (p + 4) = S (p + 4) := by
      unfold sf_goes
      rw [if_neg (by omega), sf_turn_w (by omega)]
    have w1 := hw p (by omega)
    have w2 := hc p (by omega)
    simp only [q44_7, q44_8, q44_9, q44_12, q44_15, q44_16, q44_19, q44_20, q44_23, q44_25, q44_26, q44_27, q44_30, q44_32, q44_34, q44_35, q44_38, q44_39, q44_42, q44_45, q44_46, q44_48, q44_49, q44_52, q44_53, q44_56, q44_57, q44_60, q44_62, q44_63, q44_66, q44_67, q44_69, q44_72, hs, hh, c0, c1, hh1, s31, s32, rdw, rdc, wrw, eW, hn, Option.toList_some, Option.toList_none, List.cons_append, List.nil_append]
    rw [if_neg (by omega)]
    rw [sf_wS (by omega)]
    by_cases hpt : (p : Int) = (t : Int)
    · rw [if_pos hpt, q44_75, sf_goes_succ, ih (p + 1) _ _ (by omega) (by omega)]
      rw [sf_w_small (by omega), if_pos (show p = t by omega)]
    · rw [if_neg hpt, q44_75, sf_goes_succ, ih (p + 1) _ _ (by omega) (by omega)]
      rw [sf_w_small (by omega), if_neg (show ¬ p = t by omega)]
theorem s44 {d n t : Nat} (hs : sf_cls s = 9) (hh : sf_cls h = 2) (hn : V h 4 = (n : Int)) (hn5 : n ≤ 5) (ht : t < 5) (hg : 0 ≤ V h 6 ∧ V h 6 ≤ 20) (hc : ∀ p, p < 5 → 0 ≤ V (sf_si h) p ∧ V (sf_si h) p ≤ 9) (hw : ∀ p, p < 5 → 0 ≤ S (p + 4) ∧ S (p + 4) ≤ 99) (h2 : -1000 ≤ S 2 ∧ S 2 ≤ 100000) :
    sf_wp (d + 2) none 44 0 [some (.inr (.inl (some s))), some (.inr (.inl (some h))), some (.inl (t : Int)), none, none, none] [] (sf_E (sf_setS V s S)) K = K none (sf_E (sf_setS V s (sf_goes n (V h 6) (V (sf_si h)) S t))) := by
  simp only [q44_0, q44_1, q44_2, hs]
  rw [s45 hs ht h2]
  simp only [q44_5, q44_6, Option.toList_some, Option.toList_none, List.cons_append, List.nil_append]
  rw [← sf_goes_zero (gain := V h 6) (cold := V (sf_si h))]
  exact s44_loop (d := d + 1) hs hh hn hn5 ht hg hc hw n 0 none none rfl (Nat.zero_le _)
theorem sf_likes_in {n : Nat} {k p : Int} (hn : 0 < n) (hp : 0 ≤ p ∧ p < n) (hd : 0 ≤ S 0 ∧ S 0 < n) : ∃ t : Nat, sf_likes n S k p = (t : Int) ∧ t < n := by
  unfold sf_likes
  split
  · have := sf_least_lt (fun j => S (j + 4)) n
    exact ⟨_, rfl, by omega⟩
  split
  · have := sf_least_lt (fun j => S (j + 9)) n
    exact ⟨_, rfl, by omega⟩
  unfold sf_pln
  have key : ∀ z : Int, 0 ≤ z → z < n → ∃ t : Nat, z = (t : Int) ∧ t < n := fun z h1 h2 => ⟨z.toNat, by omega, by omega⟩
  apply key <;> (repeat' split) <;> omega
/-- an hour without a doing -/
theorem s43n {d n t : Nat} {p : Int} (hs : sf_cls s = 9) (hh : sf_cls h = 2) (hn : V h 4 = (n : Int)) (hn5 : n ≤ 5) (ht : t < 5) (hd : S 0 = (t : Int)) (hg : 0 ≤ V h 6 ∧ V h 6 ≤ 20) (hc : ∀ p, p < 5 → 0 ≤ V (sf_si h) p ∧ V (sf_si h) p ≤ 9) (hw : ∀ p, p < 5 → 0 ≤ S (p + 4) ∧ S (p + 4) ≤ 99) (h2 : -1000 ≤ S 2 ∧ S 2 ≤ 100000) :
    sf_wp (d + 3) none 43 0 [some (.inr (.inl (some s))), some (.inr (.inl (some h))), some (.inl (-1)), some (.inl p), none] [] (sf_E (sf_setS V s S)) K = K none (sf_E (sf_setS V s (sf_goes n (V h 6) (V (sf_si h)) S t))) := by
  simp only [q43_0, q43_1, q43_4, q43_6, q43_7, q43_8, q43_40, q43_41, q43_42, q43_44, hs, sf_setS_d, hd, if_true]
  rw [s44 hs hh hn hn5 ht hg hc hw h2]
  simp only [q43_47, Option.toList_some, Option.toList_none, List.cons_append, List.nil_append]
/-- an hour with a doing e of p -/
theorem s43d {d n e t : Nat} {p : Int} (hs : sf_cls s = 9) (hh : sf_cls h = 2) (hn : V h 4 = (n : Int)) (hn5 : n ≤ 5) (he : e < 6) (hp : 0 ≤ p ∧ p < n) (hd : 0 ≤ S 0 ∧ S 0 < n) (ht : sf_likes n S (S (e + 14)) p = (t : Int)) (hg : 0 ≤ V h 6 ∧ V h 6 ≤ 20) (hc : ∀ p, p < 5 → 0 ≤ V (sf_si h) p ∧ V (sf_si h) p ≤ 9) (hco : 0 ≤ V (sf_la h) e ∧ V (sf_la h) e ≤ 9) (hw : ∀ p, p < 5 → 0 ≤ S (p + 4) ∧ S (p + 4) ≤ 99) (h1 : -100000 ≤ S 1 ∧ S 1 ≤ 100000) (h2 : -1000 ≤ S 2 ∧ S 2 ≤ 100000) :
    sf_wp (d + 3) none 43 0 [some (.inr (.inl (some s))), some (.inr (.inl (some h))), some (.inl (e : Int)), some (.inl p), none] [] (sf_E (sf_setS V s S)) K = K none (sf_E (sf_setS V s (sf_goes n (V h 6) (V (sf_si h)) (sf_ru S 1 (S 1 - V (sf_la h) e)) t))) := by
  obtain ⟨m1, m2, m3, m4⟩ := sf_homeLen hh
  have c2 := sf_c2_2 hh
  have hh1 : ∀ T, sf_setS V s T h = V h := fun T => (sf_setS_home (j := 2) hs hh c2).1
  have hh2 : ∀ T, sf_setS V s T (sf_rf (sf_rf h 2) 0) = V (sf_rf (sf_rf h 2) 0) := fun T => (sf_setS_home (j := 2) hs hh c2).2
  have ht5 : t < 5 := by
    obtain ⟨t', h1', h2'⟩ := sf_likes_in (S := S) (k := S (e + 14)) (p := p) (n := n) (by omega) hp hd
    have : (t : Int) = (t' : Int) := by rw [← ht, h1']
    omega
  have rdc : ∀ T : Nat → Int, sf_rd (sf_setS V s T) (sf_rf (sf_rf h 2) 0) (e : Int) = V (sf_la h) e := fun T => by
    rw [sf_rd_nat (by omega), hh2]
    rfl
  simp only [q43_0, q43_1, q43_4, q43_6, q43_7, q43_8, q43_11, q43_12, q43_13, q43_14, q43_15, q43_18, hs, hh, hh1, hn, sf_setS_d]
  rw [if_neg (by omega), s40 hs he hn5 ⟨by omega, by omega⟩ ⟨by omega, by omega⟩]
  simp only [q43_21, q43_23, q43_24, q43_25, q43_28, q43_29, q43_32, q43_33, q43_36, q43_37, q43_40, q43_41, q43_42, q43_44, hs, hh, c2, s31, rdc, sf_setS_l, sf_setS_ul, ht, Option.toList_some, Option.toList_none, List.cons_append, List.nil_append]
  rw [sf_w_small (by omega), s44 hs hh hn hn5 ht5 hg hc (fun p hp => by
    have : sf_ru S 1 (S 1 - V (sf_la h) e) (p + 4) = S (p + 4) := by unfold sf_ru; rw [if_neg (by omega)]
    rw [this]; exact hw p hp) (by
    have : sf_ru S 1 (S 1 - V (sf_la h) e) 2 = S 2 := by unfold sf_ru; rw [if_neg (by omega)]
    rw [this]; exact h2)]
  simp only [q43_47, Option.toList_some, Option.toList_none, List.cons_append, List.nil_append]
end SFT4
