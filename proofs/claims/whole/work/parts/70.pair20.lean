/-! left, doers: the reference -/
section SFP20
variable {V X Y : sf_MV} {n nx c ce cf cg a k m : Nat} {v : Int} {f : Nat → Int} {K : Option sf_V → sf_M → Prop}
theorem sf_req_self {S T : Nat → Int} (hn : n ≤ 5) (h : ∀ k, k < 20 → k ≠ 3 → S k = T k) : sf_req n S T :=
  sf_req.mk (h _ (by omega) (by omega)) (h _ (by omega) (by omega)) (h _ (by omega) (by omega)) (fun p hp => h _ (by omega) (by omega)) (fun p hp => h _ (by omega) (by omega)) (fun e he => h _ (by omega) (by omega))
theorem s123s {d : Nat} {S : Nat → Int} {rule p : Int} (hn : V 409 0 = (n : Int)) (hn0 : 0 < n) (hn5 : n ≤ 5) (hr : 0 ≤ rule ∧ rule ≤ 6) (hp : 0 ≤ p ∧ p < n) (hd : 0 ≤ S 0 ∧ S 0 < n) :
    sf_wp d none 123 0 [some (.inr (.inl (some 409))), some (.inl rule), some (.inl p), none, none, none, none] [] (sf_E (sf_put V (sf_rf 409 28) 0 20 S)) K = K (some (.inl (sf_likes n S rule p))) (sf_E (sf_put V (sf_rf 409 28) 0 20 S)) := by
  have e0 : sf_put V (sf_rf 409 28) 0 20 S (sf_rf 409 28) 0 = S 0 := sf_put_at (by decide)
  rw [s123 (n := n) (by rw [sf_so_y]; exact hn) hn0 hn5 hr hp (by rw [e0]; exact hd)]
  rw [sf_likes_c (sf_req_self hn5 (fun k hk _ => sf_put_at hk))]
theorem s151_in {to which : Int} {e : Nat} {S : Nat → Int} {L : Nat → Nat → Int} {G : Int × Int → Int} (hn : V 409 0 = (n : Int)) (hn5 : n ≤ 5) (he : e < 6) (hr : 0 ≤ S (e + 14) ∧ S (e + 14) ≤ 6) (hd : 0 < n → 0 ≤ S 0 ∧ S 0 < n) (hL : ∀ p, p < n → sf_likes n S (S (e + 14)) (p : Int) = L e p)
    (hK : ∀ s : Int × Int, 0 ≤ s.1 → s.1 ≤ 5 * (e + 1) → sf_wp 19 none 151 91 [some (.inr (.inl (some 409))), some (.inl to), some (.inl which), some (.inl s.1), some (.inl s.2), some (.inl (e : Int)), some (.inl (n : Int))] [] (sf_E (sf_put V (sf_rf 409 28) 0 20 S)) K = K (some (.inl (G s))) (sf_E (sf_put V (sf_rf 409 28) 0 20 S))) :
    ∀ (m p : Nat) (s : Int × Int), n - p = m → p ≤ n → 0 ≤ s.1 → s.1 ≤ 5 * e + p → sf_wp 19 none 151 33 [some (.inr (.inl (some 409))), some (.inl to), some (.inl which), some (.inl s.1), some (.inl s.2), some (.inl (e : Int)), some (.inl (p : Int))] [] (sf_E (sf_put V (sf_rf 409 28) 0 20 S)) K = K (some (.inl (sf_fi (sf_lst L to which) n e m G s))) (sf_E (sf_put V (sf_rf 409 28) 0 20 S)) := by
  have y28 := sf_c12_28 sf_y
  have b1 : e + 14 < 20 := by omega
  have x14 : sf_put V (sf_rf 409 28) 0 20 S (sf_rf 409 28) (e + 14) = S (e + 14) := sf_put_at b1
  intro m
  induction m with
  | zero =>
    intro p s hm hp h0 h1
    simp only [q151_33, q151_35, q151_36, q151_39, sf_y, sf_so_y, hn]
    rw [if_pos (by omega), show p = n by omega]
    exact hK s h0 (by omega)
  | succ m ih =>
    intro p s hm hp h0 h1
    have ep : n - (m + 1) = p := by omega
    unfold sf_fi
    rw [ep]
    simp only [q151_33, q151_35, q151_36, q151_39, sf_y, sf_so_y, hn]
    rw [if_neg (by omega)]
    simp only [q151_42, q151_43, q151_44, q151_47, q151_49, q151_51, q151_52, q151_53, q151_55, sf_y, y28, sf_y28, sf_n14 (show e < 1000 by omega), sf_bd, b1, true_and, Int.toNat_natCast, x14, Option.toList_some, Option.toList_none, List.cons_append, List.nil_append]
    rw [s123s hn (by omega) hn5 hr (by omega) (hd (by omega)), hL p (by omega)]
    simp only [q151_58, q151_59, Option.toList_some, Option.toList_none, List.cons_append, List.nil_append]
    by_cases h : L e p = to
    · rw [if_pos h]
      have e1 : sf_lst L to which e p s = (s.1 + 1, if s.1 = which then 10 * (e : Int) + p else s.2) := by
        unfold sf_lst
        rw [if_pos h]
      simp only [q151_62, q151_63, q151_64]
      by_cases hw : s.1 = which
      · rw [if_pos hw] at e1 ⊢
        simp only [q151_67, q151_69, q151_71, q151_72, q151_74, q151_75, q151_78, q151_80, q151_82, q151_85]
        rw [q151_88, sf_wS (by omega), sf_w_small (n := s.1 + 1) (by omega), sf_w_small (n := 10 * (e : Int)) (by omega), sf_w_small (by omega)]
        rw [ih (p + 1) (s.1 + 1, 10 * (e : Int) + p) (by omega) (by omega) (by show 0 ≤ s.1 + 1; omega) (by show s.1 + 1 ≤ _; omega), e1]
      · rw [if_neg hw] at e1 ⊢
        simp only [q151_78, q151_80, q151_82, q151_85]
        rw [q151_88, sf_wS (by omega), sf_w_small (n := s.1 + 1) (by omega)]
        rw [ih (p + 1) (s.1 + 1, s.2) (by omega) (by omega) (by show 0 ≤ s.1 + 1; omega) (by show s.1 + 1 ≤ _; omega), e1]
    · rw [if_neg h]
      have e1 : sf_lst L to which e p s = s := by
        unfold sf_lst
        rw [if_neg h]
      simp only [q151_85]
      rw [q151_88, sf_wS (by omega), ih (p + 1) s (by omega) (by omega) h0 (by omega), e1]
theorem s151_out {to which : Int} {S : Nat → Int} {L : Nat → Nat → Int} (hn : V 409 0 = (n : Int)) (hn5 : n ≤ 5) (hr : ∀ e, e < 6 → 0 ≤ S (e + 14) ∧ S (e + 14) ≤ 6) (hd : 0 < n → 0 ≤ S 0 ∧ S 0 < n) (hL : ∀ e, e < 6 → ∀ p, p < n → sf_likes n S (S (e + 14)) (p : Int) = L e p) :
    ∀ (k e : Nat) (s : Int × Int) l, 6 - e = k → e ≤ 6 → 0 ≤ s.1 → s.1 ≤ 5 * e → sf_wp 19 none 151 23 [some (.inr (.inl (some 409))), some (.inl to), some (.inl which), some (.inl s.1), some (.inl s.2), some (.inl (e : Int)), l] [] (sf_E (sf_put V (sf_rf 409 28) 0 20 S)) K = K (some (.inl (sf_fo (sf_lst L to which) n k (sf_lre which) s))) (sf_E (sf_put V (sf_rf 409 28) 0 20 S)) := by
  intro k
  induction k with
  | zero =>
    intro e s l hm hp h0 h1
    simp only [q151_23, q151_25, q151_27]
    rw [if_pos (by omega)]
    simp only [q151_97, q151_98, q151_99]
    unfold sf_fo sf_lre
    by_cases h : which = -1
    · rw [if_pos h, if_pos h]
      simp only [q151_102, q151_103, q151_108]
    · rw [if_neg h, if_neg h]
      simp only [q151_106, q151_108]
  | succ k ih =>
    intro e s l hm hp h0 h1
    simp only [q151_23, q151_25, q151_27, q151_30, q151_31]
    rw [if_neg (by omega)]
    have ek : 6 - (k + 1) = e := by omega
    unfold sf_fo
    rw [ek]
    exact s151_in (n := n) hn hn5 (by omega) (hr e (by omega)) hd (hL e (by omega)) (fun s q0 q1 => by
      simp only [q151_91]
      rw [q151_94, sf_wS (by omega)]
      exact ih (e + 1) s _ (by omega) (by omega) q0 (by omega)) n 0 s (by omega) (by omega) h0 (by omega)
theorem p_left (R : sf_RR V n nx c ce cf cg) {to which : Int} : sf_P2 78 151 [some (.inl to), some (.inl which), none, none, none] [some (.inl to), some (.inl which), none, none, none, none] V := by
  have ha := R.a
  have hb := R.b
  have hn5 := ha.n5
  by_cases hp : 0 ≤ to ∧ to < n
  · have hd := hb.y.d
    have hdx : sf_getS V (sf_rf 0 2) 0 = V (sf_rf 409 4) 0 := hb.q.d
    refine ⟨sf_fo (sf_lst (sf_lik n (sf_getS V (sf_rf 0 2))) to which) n 6 (sf_lre which) (0, -1), V, sf_put V (sf_rf 409 28) 0 20 (V (sf_rf 409 4)), n, nx, c, ce, cf, cg, ?_, ?_, sf_RR_so R⟩
    · intro K
      simp only [q78_0, q78_1, q78_2, s91, q78_5, sf_x, ha.xn, Option.toList_some, Option.toList_none, List.cons_append, List.nil_append]
      rw [if_pos hp, if_neg (by decide)]
      simp only [q78_11, q78_12, q78_13, q78_14]
      exact s78_out (n := n) (to := to) (which := which) ha.xn hn5 (by omega) 6 0 0 none (by omega) (by omega) (by omega) (by omega)
    · intro K
      simp only [q151_0, q151_1, q151_2, sf_y, Option.toList_some, Option.toList_none, List.cons_append, List.nil_append]
      rw [s117 (by rw [ha.yn]; omega)]
      simp only [q151_5, ha.yn, Option.toList_some, Option.toList_none, List.cons_append, List.nil_append]
      rw [sf_inB_y (by omega), if_neg (by decide)]
      simp only [q151_11, q151_12, sf_y]
      rw [s122]
      simp only [q151_15, q151_16, q151_17, q151_18, q151_20, q151_21, Option.toList_some, Option.toList_none, List.cons_append, List.nil_append]
      exact s151_out (n := n) (L := sf_lik n (sf_getS V (sf_rf 0 2))) ha.yn hn5 hb.y.r (fun _ => by omega) (fun e he p hp => by
        unfold sf_lik
        rw [hb.q.r e he]
        exact (sf_likes_c hb.q).symm) 6 0 (0, -1) none (by omega) (by omega) (by decide) (by decide)
  · refine ⟨-1000000001, V, V, n, nx, c, ce, cf, cg, ?_, ?_, R⟩
    · intro K
      simp only [q78_0, q78_1, q78_2, s91, q78_5, sf_x, ha.xn, Option.toList_some, Option.toList_none, List.cons_append, List.nil_append]
      rw [if_neg hp, if_pos rfl]
      simp only [q78_8, q78_10]
    · intro K
      simp only [q151_0, q151_1, q151_2, sf_y, Option.toList_some, Option.toList_none, List.cons_append, List.nil_append]
      rw [s117 (by rw [ha.yn]; omega)]
      simp only [q151_5, ha.yn, Option.toList_some, Option.toList_none, List.cons_append, List.nil_append]
      rw [sf_inB_n (by omega), if_pos rfl]
      simp only [q151_8, q151_10]
end SFP20
