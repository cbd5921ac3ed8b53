/-! Rounds: the class's memory -/
def sf_mrb (V : sf_MV) (sa da : Nat → Int) (h l p : Int) : sf_MV := fun a k =>
  if a = (sf_rf 0 12) ∧ k = 3 then h else if a = (sf_rf 0 12) ∧ k = 4 then l else if a = (sf_rf 0 12) ∧ k = 5 then p else if a = (sf_rf (sf_rf (sf_rf 0 12) 1) 0) ∧ k < 101 then sa k else if a = (sf_rf (sf_rf (sf_rf 0 12) 2) 0) ∧ k < 2000 then da k else V a k
def sf_mr (V : sf_MV) (S sa da : Nat → Int) (h l p : Int) : sf_MV := sf_setS (sf_mrb V sa da h l p) (sf_rf (sf_rf 0 12) 0) S
section SFP64
variable {V : sf_MV} {S S' sa da : Nat → Int} {h l p v : Int} {K : Option sf_V → sf_M → Prop} {a j n : Nat}
theorem sf_setS_up {s k : Nat} (h1 : ¬ a = s) (h2 : ¬ a = sf_rf (sf_rf s 0) 0) (h3 : ¬ a = sf_rf (sf_rf s 1) 0) (h4 : ¬ a = sf_rf (sf_rf s 2) 0) : sf_upd (sf_setS V s S) a k v = sf_setS (sf_upd V a k v) s S := by
  funext b i
  by_cases e : b = a
  · subst e
    rw [sf_setS_ne3 h1 h2 h3 h4]
    show (if b = b ∧ i = k then v else sf_setS V s S b i) = (if b = b ∧ i = k then v else V b i)
    rw [sf_setS_ne3 h1 h2 h3 h4]
  · rw [sf_upd_ne e]
    unfold sf_setS
    rw [sf_upd_ne e]
theorem sf_mrb_h : sf_upd (sf_mrb V sa da h l p) (sf_rf 0 12) 3 v = sf_mrb V sa da v l p := by
  funext a k
  unfold sf_upd sf_mrb
  by_cases e : a = (sf_rf 0 12) ∧ k = 3
  · simp only [if_pos e]
  · simp only [if_neg e]
theorem sf_mrb_l : sf_upd (sf_mrb V sa da h l p) (sf_rf 0 12) 4 v = sf_mrb V sa da h v p := by
  funext a k
  unfold sf_upd sf_mrb
  by_cases e : a = (sf_rf 0 12) ∧ k = 4
  · simp only [if_pos e, if_neg (show ¬ (a = (sf_rf 0 12) ∧ k = 3) from fun z => by omega)]
  · simp only [if_neg e]
theorem sf_mrb_p : sf_upd (sf_mrb V sa da h l p) (sf_rf 0 12) 5 v = sf_mrb V sa da h l v := by
  funext a k
  unfold sf_upd sf_mrb
  by_cases e : a = (sf_rf 0 12) ∧ k = 5
  · simp only [if_pos e, if_neg (show ¬ (a = (sf_rf 0 12) ∧ k = 3) from fun z => by omega), if_neg (show ¬ (a = (sf_rf 0 12) ∧ k = 4) from fun z => by omega)]
  · simp only [if_neg e]
theorem sf_mrb_s (hj : j < 101) : sf_upd (sf_mrb V sa da h l p) (sf_rf (sf_rf (sf_rf 0 12) 1) 0) j v = sf_mrb V (sf_ru sa j v) da h l p := by
  funext a k
  unfold sf_upd sf_mrb
  by_cases e : a = (sf_rf (sf_rf (sf_rf 0 12) 1) 0)
  · subst e
    have n1 : ¬ (sf_rf (sf_rf (sf_rf 0 12) 1) 0) = (sf_rf 0 12) := by simp [sf_rf_self2]
    simp only [n1, false_and, if_false, true_and]
    by_cases q : k = j
    · subst q
      rw [if_pos rfl, if_pos hj, sf_ru_eq]
    · rw [if_neg q, sf_ru_ne q]
  · simp only [e, false_and, if_false]
theorem sf_mrb_d (hj : j < 2000) : sf_upd (sf_mrb V sa da h l p) (sf_rf (sf_rf (sf_rf 0 12) 2) 0) j v = sf_mrb V sa (sf_ru da j v) h l p := by
  funext a k
  unfold sf_upd sf_mrb
  by_cases e : a = (sf_rf (sf_rf (sf_rf 0 12) 2) 0)
  · subst e
    have n1 : ¬ (sf_rf (sf_rf (sf_rf 0 12) 2) 0) = (sf_rf 0 12) := by simp [sf_rf_self2]
    have n2 : ¬ (sf_rf (sf_rf (sf_rf 0 12) 2) 0) = (sf_rf (sf_rf (sf_rf 0 12) 1) 0) := by simp [sf_rf_inj]
    simp only [n1, n2, false_and, if_false, true_and]
    by_cases q : k = j
    · subst q
      rw [if_pos rfl, if_pos hj, sf_ru_eq]
    · rw [if_neg q, sf_ru_ne q]
  · simp only [e, false_and, if_false]
theorem sf_mrb_ne (h1 : ¬ a = (sf_rf 0 12)) (h2 : ¬ a = (sf_rf (sf_rf (sf_rf 0 12) 1) 0)) (h3 : ¬ a = (sf_rf (sf_rf (sf_rf 0 12) 2) 0)) : sf_mrb V sa da h l p a = V a := by
  funext k
  unfold sf_mrb
  simp only [h1, h2, h3, false_and, if_false]
theorem sf_R_st : ¬ (sf_rf 0 12) = (sf_rf (sf_rf 0 12) 0) ∧ ¬ (sf_rf 0 12) = sf_rf (sf_rf (sf_rf (sf_rf 0 12) 0) 0) 0 ∧ ¬ (sf_rf 0 12) = sf_rf (sf_rf (sf_rf (sf_rf 0 12) 0) 1) 0 ∧ ¬ (sf_rf 0 12) = sf_rf (sf_rf (sf_rf (sf_rf 0 12) 0) 2) 0 := by
  refine ⟨?_, ?_, ?_, ?_⟩ <;> simp [sf_rf_inj, sf_0ne_rf, sf_self_rf]
theorem sf_SA_st : ¬ (sf_rf (sf_rf (sf_rf 0 12) 1) 0) = (sf_rf (sf_rf 0 12) 0) ∧ ¬ (sf_rf (sf_rf (sf_rf 0 12) 1) 0) = sf_rf (sf_rf (sf_rf (sf_rf 0 12) 0) 0) 0 ∧ ¬ (sf_rf (sf_rf (sf_rf 0 12) 1) 0) = sf_rf (sf_rf (sf_rf (sf_rf 0 12) 0) 1) 0 ∧ ¬ (sf_rf (sf_rf (sf_rf 0 12) 1) 0) = sf_rf (sf_rf (sf_rf (sf_rf 0 12) 0) 2) 0 := by
  refine ⟨?_, ?_, ?_, ?_⟩ <;> simp [sf_rf_inj, sf_0ne_rf, sf_self_rf, sf_rf_self]
theorem sf_DA_st : ¬ (sf_rf (sf_rf (sf_rf 0 12) 2) 0) = (sf_rf (sf_rf 0 12) 0) ∧ ¬ (sf_rf (sf_rf (sf_rf 0 12) 2) 0) = sf_rf (sf_rf (sf_rf (sf_rf 0 12) 0) 0) 0 ∧ ¬ (sf_rf (sf_rf (sf_rf 0 12) 2) 0) = sf_rf (sf_rf (sf_rf (sf_rf 0 12) 0) 1) 0 ∧ ¬ (sf_rf (sf_rf (sf_rf 0 12) 2) 0) = sf_rf (sf_rf (sf_rf (sf_rf 0 12) 0) 2) 0 := by
  refine ⟨?_, ?_, ?_, ?_⟩ <;> simp [sf_rf_inj, sf_0ne_rf, sf_self_rf, sf_rf_self]
theorem sf_mr_uh : sf_upd (sf_mr V S sa da h l p) (sf_rf 0 12) 3 v = sf_mr V S sa da v l p := by
  obtain ⟨a1, a2, a3, a4⟩ := sf_R_st
  unfold sf_mr
  rw [sf_setS_up a1 a2 a3 a4, sf_mrb_h]
theorem sf_mr_ul : sf_upd (sf_mr V S sa da h l p) (sf_rf 0 12) 4 v = sf_mr V S sa da h v p := by
  obtain ⟨a1, a2, a3, a4⟩ := sf_R_st
  unfold sf_mr
  rw [sf_setS_up a1 a2 a3 a4, sf_mrb_l]
theorem sf_mr_up : sf_upd (sf_mr V S sa da h l p) (sf_rf 0 12) 5 v = sf_mr V S sa da h l v := by
  obtain ⟨a1, a2, a3, a4⟩ := sf_R_st
  unfold sf_mr
  rw [sf_setS_up a1 a2 a3 a4, sf_mrb_p]
theorem sf_saLen : sf_len (sf_rf (sf_rf (sf_rf 0 12) 1) 0) = 101 ∧ sf_len (sf_rf (sf_rf (sf_rf 0 12) 2) 0) = 2000 := by decide +kernel
theorem sf_mr_ws (hj : j < 101) : sf_wr (sf_mr V S sa da h l p) (sf_rf (sf_rf (sf_rf 0 12) 1) 0) (j : Int) v = sf_mr V S (sf_ru sa j v) da h l p := by
  obtain ⟨a1, a2, a3, a4⟩ := sf_SA_st
  have := sf_saLen
  unfold sf_wr
  rw [if_pos (by omega), Int.toNat_natCast]
  unfold sf_mr
  rw [sf_setS_up a1 a2 a3 a4, sf_mrb_s hj]
theorem sf_mr_wd (hj : j < 2000) : sf_wr (sf_mr V S sa da h l p) (sf_rf (sf_rf (sf_rf 0 12) 2) 0) (j : Int) v = sf_mr V S sa (sf_ru da j v) h l p := by
  obtain ⟨a1, a2, a3, a4⟩ := sf_DA_st
  have := sf_saLen
  unfold sf_wr
  rw [if_pos (by omega), Int.toNat_natCast]
  unfold sf_mr
  rw [sf_setS_up a1 a2 a3 a4, sf_mrb_d hj]
theorem sf_mr_set : sf_setS (sf_mr V S sa da h l p) (sf_rf (sf_rf 0 12) 0) S' = sf_mr V S' sa da h l p := sf_setS_set
theorem sf_mr_h : sf_mr V S sa da h l p (sf_rf 0 12) 3 = h := by
  obtain ⟨a1, a2, a3, a4⟩ := sf_R_st
  unfold sf_mr
  rw [sf_setS_ne3 a1 a2 a3 a4]
  unfold sf_mrb
  rw [if_pos ⟨rfl, rfl⟩]
theorem sf_mr_l : sf_mr V S sa da h l p (sf_rf 0 12) 4 = l := by
  obtain ⟨a1, a2, a3, a4⟩ := sf_R_st
  unfold sf_mr
  rw [sf_setS_ne3 a1 a2 a3 a4]
  unfold sf_mrb
  rw [if_neg (fun z => by omega), if_pos ⟨rfl, rfl⟩]
theorem sf_mr_p : sf_mr V S sa da h l p (sf_rf 0 12) 5 = p := by
  obtain ⟨a1, a2, a3, a4⟩ := sf_R_st
  unfold sf_mr
  rw [sf_setS_ne3 a1 a2 a3 a4]
  unfold sf_mrb
  rw [if_neg (fun z => by omega), if_neg (fun z => by omega), if_pos ⟨rfl, rfl⟩]
theorem sf_mr_rs (hj : j < 101) : sf_rd (sf_mr V S sa da h l p) (sf_rf (sf_rf (sf_rf 0 12) 1) 0) (j : Int) = sa j := by
  obtain ⟨a1, a2, a3, a4⟩ := sf_SA_st
  have := sf_saLen
  rw [sf_rd_nat (by omega)]
  unfold sf_mr
  rw [sf_setS_ne3 a1 a2 a3 a4]
  unfold sf_mrb
  have n1 : ¬ (sf_rf (sf_rf (sf_rf 0 12) 1) 0) = (sf_rf 0 12) := by simp [sf_rf_self2]
  simp only [n1, false_and, if_false, true_and, hj, if_true]
theorem sf_mr_rd (hj : j < 2000) : sf_rd (sf_mr V S sa da h l p) (sf_rf (sf_rf (sf_rf 0 12) 2) 0) (j : Int) = da j := by
  obtain ⟨a1, a2, a3, a4⟩ := sf_DA_st
  have := sf_saLen
  rw [sf_rd_nat (by omega)]
  unfold sf_mr
  rw [sf_setS_ne3 a1 a2 a3 a4]
  unfold sf_mrb
  have n1 : ¬ (sf_rf (sf_rf (sf_rf 0 12) 2) 0) = (sf_rf 0 12) := by simp [sf_rf_self2]
  have n2 : ¬ (sf_rf (sf_rf (sf_rf 0 12) 2) 0) = (sf_rf (sf_rf (sf_rf 0 12) 1) 0) := by simp [sf_rf_inj]
  simp only [n1, n2, false_and, if_false, true_and, hj, if_true]
theorem sf_mr_d : sf_mr V S sa da h l p (sf_rf (sf_rf 0 12) 0) 3 = S 0 := sf_setS_d
theorem sf_st9 : sf_cls (sf_rf (sf_rf 0 12) 0) = 9 := sf_c6_0 (sf_c11_12 sf_x)
theorem sf_mr_ri {q : Nat} (hq : q < 5) : sf_rd (sf_mr V S sa da h l p) (sf_rf (sf_rf (sf_rf (sf_rf 0 12) 0) 1) 0) (q : Int) = S (q + 9) := by
  obtain ⟨l1, l2, l3⟩ := sf_stoveLen sf_st9
  rw [sf_rd_nat (by omega)]
  exact sf_setS_i hq
theorem sf_mr_ne (h1 : ¬ a = (sf_rf 0 12)) (h2 : ¬ a = (sf_rf (sf_rf (sf_rf 0 12) 1) 0)) (h3 : ¬ a = (sf_rf (sf_rf (sf_rf 0 12) 2) 0)) (h4 : ¬ a = (sf_rf (sf_rf 0 12) 0)) (h5 : ¬ a = sf_rf (sf_rf (sf_rf (sf_rf 0 12) 0) 0) 0) (h6 : ¬ a = sf_rf (sf_rf (sf_rf (sf_rf 0 12) 0) 1) 0) (h7 : ¬ a = sf_rf (sf_rf (sf_rf (sf_rf 0 12) 0) 2) 0) : sf_mr V S sa da h l p a = V a := by
  unfold sf_mr
  rw [sf_setS_ne3 h4 h5 h6 h7, sf_mrb_ne h1 h2 h3]
theorem sf_mr_self : sf_mr V (sf_getS V (sf_rf (sf_rf 0 12) 0)) (V (sf_rf (sf_rf (sf_rf 0 12) 1) 0)) (V (sf_rf (sf_rf (sf_rf 0 12) 2) 0)) (V (sf_rf 0 12) 3) (V (sf_rf 0 12) 4) (V (sf_rf 0 12) 5) = V := by
  have e : sf_mrb V (V (sf_rf (sf_rf (sf_rf 0 12) 1) 0)) (V (sf_rf (sf_rf (sf_rf 0 12) 2) 0)) (V (sf_rf 0 12) 3) (V (sf_rf 0 12) 4) (V (sf_rf 0 12) 5) = V := by
    funext a k
    unfold sf_mrb
    split
    · rename_i z; rw [z.1, z.2]
    split
    · rename_i z; rw [z.1, z.2]
    split
    · rename_i z; rw [z.1, z.2]
    split
    · rename_i z; rw [z.1]
    split
    · rename_i z; rw [z.1]
    rfl
  unfold sf_mr
  rw [e]
  exact sf_setS_get
/-! standing -/
def sf_feE (S : Nat → Int) (n : Nat) : Nat → Int
  | 0 => S 0
  | m + 1 => sf_feE S n m * 5 + (sf_feR (fun q => S (q + 9)) n m : Int)
theorem sf_feE_bd (hn5 : n ≤ 5) (hd : 0 ≤ S 0 ∧ S 0 < 5) : ∀ m, m ≤ n → 0 ≤ sf_feE S n m ∧ sf_feE S n m < 5 * 5 ^ m := by
  intro m
  induction m with
  | zero => intro _; unfold sf_feE; omega
  | succ m ih =>
    intro hm
    have h1 := ih (by omega)
    have h2 := sf_feR_bd (s := fun q => S (q + 9)) (n := n) (p := m) (by omega)
    unfold sf_feE
    rw [Int.pow_succ]
    omega
theorem sf_feE_eq {T : Nat → Int} (hn5 : n ≤ 5) : ∀ m, m ≤ n → (sf_feE S n m = sf_feE T n m ↔ S 0 = T 0 ∧ ∀ p, p < m → sf_feR (fun q => S (q + 9)) n p = sf_feR (fun q => T (q + 9)) n p) := by
  intro m
  induction m with
  | zero => intro _; exact ⟨fun h => ⟨h, fun p hp => absurd hp (by omega)⟩, fun h => h.1⟩
  | succ m ih =>
    intro hm
    have h1 := ih (by omega)
    have h2 := sf_feR_bd (s := fun q => S (q + 9)) (n := n) (p := m) (by omega)
    have h3 := sf_feR_bd (s := fun q => T (q + 9)) (n := n) (p := m) (by omega)
    have e1 : sf_feE S n (m + 1) = sf_feE S n m * 5 + (sf_feR (fun q => S (q + 9)) n m : Int) := rfl
    have e2 : sf_feE T n (m + 1) = sf_feE T n m * 5 + (sf_feR (fun q => T (q + 9)) n m : Int) := rfl
    rw [e1, e2]
    refine ⟨fun h => ?_, fun h => ?_⟩
    · have g := h1.mp (by omega)
      refine ⟨g.1, fun p hp => ?_⟩
      by_cases q : p = m
      · rw [q]; omega
      · exact g.2 p (by omega)
    · have g := h1.mpr ⟨h.1, fun p hp => h.2 p (by omega)⟩
      have := h.2 m (by omega)
      omega
theorem s26_in {d q : Nat} {code : Int} (hn5 : n ≤ 5) (hq : q < n) : ∀ m k, n - k = m → k ≤ n →
    sf_wp (d + 1) none 26 21 [some (.inr (.inl (some (sf_rf 0 12)))), some (.inl (n : Int)), some (.inl code), some (.inl (q : Int)), some (.inl (sf_feC (fun i => decide (S (i + 9) < S (q + 9))) k : Int)), some (.inl (k : Int))] [] (sf_E (sf_mr V S sa da h l p)) K
    = sf_wp (d + 1) none 26 62 [some (.inr (.inl (some (sf_rf 0 12)))), some (.inl (n : Int)), some (.inl code), some (.inl (q : Int)), some (.inl (sf_feC (fun i => decide (S (i + 9) < S (q + 9))) n : Int)), some (.inl (n : Int))] [] (sf_E (sf_mr V S sa da h l p)) K := by
  have x12 := sf_c11_12 sf_x
  have c0 := sf_st9
  have c1 := sf_c9_1 c0
  intro m
  induction m with
  | zero =>
    intro k hm hk
    have e : k = n := by omega
    subst e
    simp only [q26_21, q26_23, q26_24]
    rw [if_pos (by omega)]
  | succ m ih =>
    intro k hm hk
    have r1 := sf_mr_ri (V := V) (S := S) (sa := sa) (da := da) (h := h) (l := l) (p := p) (q := k) (by omega)
    have r2 := sf_mr_ri (V := V) (S := S) (sa := sa) (da := da) (h := h) (l := l) (p := p) (q := q) (by omega)
    have ih := ih (k + 1) (by omega) (by omega)
    have eC : sf_feC (fun i => decide (S (i + 9) < S (q + 9))) (k + 1) = sf_feC (fun i => decide (S (i + 9) < S (q + 9))) k + (if decide (S (k + 9) < S (q + 9)) = true then 1 else 0) := rfl
    have bd := sf_feC_bd (f := fun i => decide (S (i + 9) < S (q + 9))) k
    simp only [q26_21, q26_23, q26_24, q26_27, q26_28, q26_31, q26_34, q26_36, q26_39, q26_40, q26_43, q26_46, q26_47, q26_50, q26_53, q26_56, x12, c0, c1, s31, r1, r2, Option.toList_some, Option.toList_none, List.cons_append, List.nil_append]
    rw [if_neg (by omega)]
    by_cases e : S (q + 9) ≤ S (k + 9)
    · rw [if_neg (by rw [decide_eq_true_eq]; omega), Nat.add_zero] at eC
      rw [eC] at ih
      rw [if_pos e, q26_59, sf_wS (by omega)]
      exact ih
    · rw [if_pos (by rw [decide_eq_true_eq]; omega)] at eC
      rw [eC] at ih
      rw [if_neg e, q26_59, sf_wS (by omega), sf_wS (by omega)]
      exact ih
theorem s26_out {d : Nat} (hn5 : n ≤ 5) (hd : 0 ≤ S 0 ∧ S 0 < 5) : ∀ m k (l4 l5 : Option sf_V), n - k = m → k ≤ n →
    sf_wp (d + 1) none 26 10 [some (.inr (.inl (some (sf_rf 0 12)))), some (.inl (n : Int)), some (.inl (sf_feE S n k)), some (.inl (k : Int)), l4, l5] [] (sf_E (sf_mr V S sa da h l p)) K
    = K (some (.inl (sf_feE S n n))) (sf_E (sf_mr V S sa da h l p)) := by
  intro m
  induction m with
  | zero =>
    intro k l4 l5 hm hk
    have e : k = n := by omega
    subst e
    simp only [q26_10, q26_11, q26_12]
    rw [if_pos (by omega)]
    simp only [q26_75, q26_76]
  | succ m ih =>
    intro k l4 l5 hm hk
    have b := sf_feE_bd (S := S) hn5 hd k hk
    have b' := sf_feE_bd (S := S) hn5 hd (k + 1) (by omega)
    have h5 : (5 : Int) * 5 ^ k ≤ 5 * 5 ^ 4 := by
      have : k = 0 ∨ k = 1 ∨ k = 2 ∨ k = 3 ∨ k = 4 := by omega
      rcases this with rfl | rfl | rfl | rfl | rfl <;> decide
    have bR := sf_feR_bd (s := fun q => S (q + 9)) (n := n) (p := k) (by omega)
    have e1 : sf_feE S n (k + 1) = sf_feE S n k * 5 + (sf_feR (fun q => S (q + 9)) n k : Int) := rfl
    have s := s26_in (d := d) (V := V) (S := S) (sa := sa) (da := da) (h := h) (l := l) (p := p) (K := K) (code := sf_feE S n k) hn5 (show k < n by omega) n 0 (by omega) (by omega)
    simp only [q26_10, q26_11, q26_12, q26_15, q26_16, q26_18, q26_19]
    rw [if_neg (by omega)]
    refine Eq.trans s ?_
    simp only [q26_62, q26_63, q26_64, q26_65, q26_67, q26_68, q26_69]
    have h625 : (5 : Int) * 5 ^ 4 = 3125 := by decide
    rw [q26_72, sf_w_small (n := sf_feE S n k * 5) (by omega), sf_w_small (by
      show -1000000 ≤ sf_feE S n k * 5 + (sf_feR (fun q => S (q + 9)) n k : Int) ∧ sf_feE S n k * 5 + (sf_feR (fun q => S (q + 9)) n k : Int) ≤ 1000000
      omega), sf_wS (by omega)]
    exact ih (k + 1) _ _ (by omega) (by omega)
theorem s26 {d : Nat} (hn5 : n ≤ 5) (hd : 0 ≤ S 0 ∧ S 0 < 5) : sf_wp (d + 1) none 26 0 [some (.inr (.inl (some (sf_rf 0 12)))), some (.inl (n : Int)), none, none, none, none] [] (sf_E (sf_mr V S sa da h l p)) K
    = K (some (.inl (sf_feE S n n))) (sf_E (sf_mr V S sa da h l p)) := by
  have x12 := sf_c11_12 sf_x
  have c0 := sf_st9
  simp only [q26_0, q26_1, q26_4, q26_7, q26_8, q26_9, x12, c0, sf_mr_d]
  exact s26_out hn5 hd n 0 none none (by omega) (by omega)
/-! roundsSinceLike -/
theorem s27_hit {d J i : Nat} (hJ : J < 101) (hi : i < J) (e : sa i = sa J) : ∀ m k, i - k = m → k ≤ i → (∀ e, k ≤ e → e < i → ¬ sa e = sa J) →
    sf_wp (d + 1) none 27 2 [some (.inr (.inl (some (sf_rf 0 12)))), some (.inl (J : Int)), some (.inl (k : Int))] [] (sf_E (sf_mr V S sa da h l p)) K
    = K (some (.inl ((J - i : Nat) : Int))) (sf_E (sf_mr V S sa da h l p)) := by
  have x12 := sf_c11_12 sf_x
  have c1 := sf_c6_1 x12
  have r2 := sf_mr_rs (V := V) (S := S) (sa := sa) (da := da) (h := h) (l := l) (p := p) (j := J) hJ
  intro m
  induction m with
  | zero =>
    intro k hm hk hne
    have ek : k = i := by omega
    subst ek
    have r1 := sf_mr_rs (V := V) (S := S) (sa := sa) (da := da) (h := h) (l := l) (p := p) (j := k) (by omega)
    simp only [q27_2, q27_3, q27_4, q27_7, q27_8, q27_11, q27_12, q27_15, q27_16, q27_19, q27_20, q27_23, x12, c1, s31, r1, r2, Option.toList_some, Option.toList_none, List.cons_append, List.nil_append]
    rw [if_neg (by omega), if_pos e]
    simp only [q27_26, q27_27, q27_28, q27_29]
    rw [sf_w_small (by omega), show (J : Int) - (k : Int) = ((J - k : Nat) : Int) by omega]
  | succ m ih =>
    intro k hm hk hne
    have r1 := sf_mr_rs (V := V) (S := S) (sa := sa) (da := da) (h := h) (l := l) (p := p) (j := k) (by omega)
    simp only [q27_2, q27_3, q27_4, q27_7, q27_8, q27_11, q27_12, q27_15, q27_16, q27_19, q27_20, q27_23, x12, c1, s31, r1, r2, Option.toList_some, Option.toList_none, List.cons_append, List.nil_append]
    rw [if_neg (by omega), if_neg (hne k (Nat.le_refl _) (by omega))]
    simp only [q27_30]
    rw [q27_33, sf_wS (by omega)]
    exact ih (k + 1) (by omega) (by omega) (fun e h1 h2 => hne e (by omega) h2)
theorem s27_miss {d J : Nat} (hJ : J < 101) : ∀ m k, J - k = m → k ≤ J → (∀ e, k ≤ e → e < J → ¬ sa e = sa J) →
    sf_wp (d + 1) none 27 2 [some (.inr (.inl (some (sf_rf 0 12)))), some (.inl (J : Int)), some (.inl (k : Int))] [] (sf_E (sf_mr V S sa da h l p)) K
    = K (some (.inl (-1))) (sf_E (sf_mr V S sa da h l p)) := by
  have x12 := sf_c11_12 sf_x
  have c1 := sf_c6_1 x12
  have r2 := sf_mr_rs (V := V) (S := S) (sa := sa) (da := da) (h := h) (l := l) (p := p) (j := J) hJ
  intro m
  induction m with
  | zero =>
    intro k hm hk hne
    have ek : k = J := by omega
    subst ek
    simp only [q27_2, q27_3, q27_4]
    rw [if_pos (by omega)]
    simp only [q27_36, q27_37]
  | succ m ih =>
    intro k hm hk hne
    have r1 := sf_mr_rs (V := V) (S := S) (sa := sa) (da := da) (h := h) (l := l) (p := p) (j := k) (by omega)
    simp only [q27_2, q27_3, q27_4, q27_7, q27_8, q27_11, q27_12, q27_15, q27_16, q27_19, q27_20, q27_23, x12, c1, s31, r1, r2, Option.toList_some, Option.toList_none, List.cons_append, List.nil_append]
    rw [if_neg (by omega), if_neg (hne k (Nat.le_refl _) (by omega))]
    simp only [q27_30]
    rw [q27_33, sf_wS (by omega)]
    exact ih (k + 1) (by omega) (by omega) (fun e h1 h2 => hne e (by omega) h2)
end SFP64
