/-! doers -/
section SFP21
variable {V X Y : sf_MV} {n nx c ce cf cg a k m : Nat} {v : Int} {f : Nat → Int} {K : Option sf_V → sf_M → Prop}
def sf_dst (L : Nat → Nat → Int) (to : Int) (e p : Nat) (s : Int32) : Int32 := if L e p = to then s ||| sf_bit p else s
theorem s79_in {to : Int} {e : Nat} {G : Int32 → Int} (hn : V (sf_rf 0 1) 4 = (n : Int)) (hn5 : n ≤ 5) (he : e < 6) (hd : 0 ≤ sf_getS V (sf_rf 0 2) 0 ∧ sf_getS V (sf_rf 0 2) 0 ≤ 9)
    (hK : ∀ s : Int32, sf_wp 19 none 79 70 [some (.inr (.inl (some 0))), some (.inl to), some (.inl s.toInt), some (.inl (e : Int)), some (.inl (n : Int))] [] (sf_E V) K = K (some (.inl (G s))) (sf_E V)) :
    ∀ (m p : Nat) (s : Int32), n - p = m → p ≤ n → sf_wp 19 none 79 24 [some (.inr (.inl (some 0))), some (.inl to), some (.inl s.toInt), some (.inl (e : Int)), some (.inl (p : Int))] [] (sf_E V) K = K (some (.inl (sf_fi (sf_dst (sf_lik n (sf_getS V (sf_rf 0 2))) to) n e m G s))) (sf_E V) := by
  have c1 := sf_c11_1 sf_x
  have c2 := sf_c11_2 sf_x
  intro m
  induction m with
  | zero =>
    intro p s hm hp
    simp only [q79_24, q79_26, q79_27, q79_30, q79_33, sf_x, c1, hn]
    rw [if_pos (by omega), show p = n by omega]
    exact hK s
  | succ m ih =>
    intro p s hm hp
    have ep : n - (m + 1) = p := by omega
    unfold sf_fi
    rw [ep]
    simp only [q79_24, q79_26, q79_27, q79_30, q79_33, q79_36, q79_37, q79_40, q79_41, q79_43, q79_44, q79_47, q79_50, sf_x, c1, c2, hn, Option.toList_some, Option.toList_none, List.cons_append, List.nil_append]
    rw [if_neg (by omega), s40g (d := 16) c2 he hn5 (by omega) (by omega)]
    simp only [q79_53, q79_54, Option.toList_some, Option.toList_none, List.cons_append, List.nil_append]
    have el : sf_likes n (sf_getS V (sf_rf 0 2)) (sf_getS V (sf_rf 0 2) (e + 14)) (p : Int) = sf_lik n (sf_getS V (sf_rf 0 2)) e p := rfl
    rw [el]
    unfold sf_dst
    by_cases h : sf_lik n (sf_getS V (sf_rf 0 2)) e p = to
    · rw [if_pos h, if_pos h]
      simp only [q79_57, q79_58, q79_59, q79_61, q79_62, q79_63, q79_64]
      rw [q79_67, sf_wS (by omega), sf_i32, sf_i32]
      exact ih (p + 1) (s ||| sf_bit p) (by omega) (by omega)
    · rw [if_neg h, if_neg h]
      simp only [q79_64]
      rw [q79_67, sf_wS (by omega)]
      exact ih (p + 1) s (by omega) (by omega)
theorem s79_out {to : Int} (hn : V (sf_rf 0 1) 4 = (n : Int)) (hn5 : n ≤ 5) (hd : 0 ≤ sf_getS V (sf_rf 0 2) 0 ∧ sf_getS V (sf_rf 0 2) 0 ≤ 9) :
    ∀ (k e : Nat) (s : Int32) l, 6 - e = k → e ≤ 6 → sf_wp 19 none 79 15 [some (.inr (.inl (some 0))), some (.inl to), some (.inl s.toInt), some (.inl (e : Int)), l] [] (sf_E V) K = K (some (.inl (sf_fo (sf_dst (sf_lik n (sf_getS V (sf_rf 0 2))) to) n k Int32.toInt s))) (sf_E V) := by
  intro k
  induction k with
  | zero =>
    intro e s l hm hp
    simp only [q79_15, q79_16, q79_18]
    rw [if_pos (by omega)]
    simp only [q79_76, q79_77]
    unfold sf_fo
    rfl
  | succ k ih =>
    intro e s l hm hp
    simp only [q79_15, q79_16, q79_18, q79_21, q79_22]
    rw [if_neg (by omega)]
    have ek : 6 - (k + 1) = e := by omega
    unfold sf_fo
    rw [ek]
    exact s79_in (n := n) hn hn5 (by omega) hd (fun s => by
      simp only [q79_70]
      rw [q79_73, sf_wS (by omega)]
      exact ih (e + 1) s _ (by omega) (by omega)) n 0 s (by omega) (by omega)
theorem s152_in {to : Int} {e : Nat} {S : Nat → Int} {L : Nat → Nat → Int} {G : Int32 → Int} (hn : V 409 0 = (n : Int)) (hn5 : n ≤ 5) (he : e < 6) (hr : 0 ≤ S (e + 14) ∧ S (e + 14) ≤ 6) (hd : 0 < n → 0 ≤ S 0 ∧ S 0 < n) (hL : ∀ p, p < n → sf_likes n S (S (e + 14)) (p : Int) = L e p)
    (hK : ∀ s : Int32, sf_wp 19 none 152 73 [some (.inr (.inl (some 409))), some (.inl to), some (.inl s.toInt), some (.inl (e : Int)), some (.inl (n : Int))] [] (sf_E (sf_put V (sf_rf 409 28) 0 20 S)) K = K (some (.inl (G s))) (sf_E (sf_put V (sf_rf 409 28) 0 20 S))) :
    ∀ (m p : Nat) (s : Int32), n - p = m → p ≤ n → sf_wp 19 none 152 28 [some (.inr (.inl (some 409))), some (.inl to), some (.inl s.toInt), some (.inl (e : Int)), some (.inl (p : Int))] [] (sf_E (sf_put V (sf_rf 409 28) 0 20 S)) K = K (some (.inl (sf_fi (sf_dst L to) n e m G s))) (sf_E (sf_put V (sf_rf 409 28) 0 20 S)) := by
  have y28 := sf_c12_28 sf_y
  have b1 : e + 14 < 20 := by omega
  have x14 : sf_put V (sf_rf 409 28) 0 20 S (sf_rf 409 28) (e + 14) = S (e + 14) := sf_put_at b1
  intro m
  induction m with
  | zero =>
    intro p s hm hp
    simp only [q152_28, q152_30, q152_31, q152_34, sf_y, sf_so_y, hn]
    rw [if_pos (by omega), show p = n by omega]
    exact hK s
  | succ m ih =>
    intro p s hm hp
    have ep : n - (m + 1) = p := by omega
    unfold sf_fi
    rw [ep]
    simp only [q152_28, q152_30, q152_31, q152_34, sf_y, sf_so_y, hn]
    rw [if_neg (by omega)]
    simp only [q152_37, q152_38, q152_39, q152_40, q152_43, q152_45, q152_46, q152_47, q152_48, q152_50, sf_y, y28, sf_y28, sf_n14 (show e < 1000 by omega), sf_bd, b1, true_and, Int.toNat_natCast, x14, Option.toList_some, Option.toList_none, List.cons_append, List.nil_append]
    rw [s123s hn (by omega) hn5 hr (by omega) (hd (by omega)), hL p (by omega)]
    simp only [q152_53, q152_54, Option.toList_some, Option.toList_none, List.cons_append, List.nil_append]
    unfold sf_dst
    by_cases h : L e p = to
    · rw [if_pos h, if_pos h]
      simp only [q152_57, q152_58, q152_60, q152_61, q152_64, q152_65, q152_66, q152_67]
      rw [q152_70, sf_wS (by omega), sf_i32, sf_i32]
      exact ih (p + 1) (s ||| sf_bit p) (by omega) (by omega)
    · rw [if_neg h, if_neg h]
      simp only [q152_64, q152_65, q152_66, q152_67]
      rw [q152_70, sf_wS (by omega), sf_i32]
      rw [show (s ||| Int32.ofInt 0) = s by simp]
      exact ih (p + 1) s (by omega) (by omega)
theorem s152_out {to : Int} {S : Nat → Int} {L : Nat → Nat → Int} (hn : V 409 0 = (n : Int)) (hn5 : n ≤ 5) (hr : ∀ e, e < 6 → 0 ≤ S (e + 14) ∧ S (e + 14) ≤ 6) (hd : 0 < n → 0 ≤ S 0 ∧ S 0 < n) (hL : ∀ e, e < 6 → ∀ p, p < n → sf_likes n S (S (e + 14)) (p : Int) = L e p) :
    ∀ (k e : Nat) (s : Int32) l, 6 - e = k → e ≤ 6 → sf_wp 19 none 152 19 [some (.inr (.inl (some 409))), some (.inl to), some (.inl s.toInt), some (.inl (e : Int)), l] [] (sf_E (sf_put V (sf_rf 409 28) 0 20 S)) K = K (some (.inl (sf_fo (sf_dst L to) n k Int32.toInt s))) (sf_E (sf_put V (sf_rf 409 28) 0 20 S)) := by
  intro k
  induction k with
  | zero =>
    intro e s l hm hp
    simp only [q152_19, q152_20, q152_22]
    rw [if_pos (by omega)]
    simp only [q152_79, q152_80]
    unfold sf_fo
    rfl
  | succ k ih =>
    intro e s l hm hp
    simp only [q152_19, q152_20, q152_22, q152_25, q152_26]
    rw [if_neg (by omega)]
    have ek : 6 - (k + 1) = e := by omega
    unfold sf_fo
    rw [ek]
    exact s152_in (n := n) hn hn5 (by omega) (hr e (by omega)) hd (hL e (by omega)) (fun s => by
      simp only [q152_73]
      rw [q152_76, sf_wS (by omega)]
      exact ih (e + 1) s _ (by omega) (by omega)) n 0 s (by omega) (by omega)
theorem p_doers (R : sf_RR V n nx c ce cf cg) {to : Int} : sf_P2 79 152 [some (.inl to), none, none, none] [some (.inl to), none, none, none] V := by
  have ha := R.a
  have hb := R.b
  have hn5 := ha.n5
  by_cases hp : 0 ≤ to ∧ to < n
  · have hd := hb.y.d
    have hdx : sf_getS V (sf_rf 0 2) 0 = V (sf_rf 409 4) 0 := hb.q.d
    refine ⟨sf_fo (sf_dst (sf_lik n (sf_getS V (sf_rf 0 2))) to) n 6 Int32.toInt 0, V, sf_put V (sf_rf 409 28) 0 20 (V (sf_rf 409 4)), n, nx, c, ce, cf, cg, ?_, ?_, sf_RR_so R⟩
    · intro K
      simp only [q79_0, q79_1, q79_2, s91, q79_5, sf_x, ha.xn, Option.toList_some, Option.toList_none, List.cons_append, List.nil_append]
      rw [if_pos hp, if_neg (by decide)]
      simp only [q79_11, q79_12, q79_13, q79_14]
      exact s79_out (n := n) (to := to) ha.xn hn5 (by omega) 6 0 0 none (by omega) (by omega)
    · intro K
      simp only [q152_0, q152_1, q152_2, sf_y, Option.toList_some, Option.toList_none, List.cons_append, List.nil_append]
      rw [s117 (by rw [ha.yn]; omega)]
      simp only [q152_5, ha.yn, Option.toList_some, Option.toList_none, List.cons_append, List.nil_append]
      rw [sf_inB_y (by omega), if_neg (by decide)]
      simp only [q152_11, q152_12, sf_y]
      rw [s122]
      simp only [q152_15, q152_16, q152_17, q152_18, Option.toList_some, Option.toList_none, List.cons_append, List.nil_append]
      exact s152_out (n := n) (L := sf_lik n (sf_getS V (sf_rf 0 2))) ha.yn hn5 hb.y.r (fun _ => by omega) (fun e he p hp => by
        unfold sf_lik
        rw [hb.q.r e he]
        exact (sf_likes_c hb.q).symm) 6 0 0 none (by omega) (by omega)
  · refine ⟨-1000000001, V, V, n, nx, c, ce, cf, cg, ?_, ?_, R⟩
    · intro K
      simp only [q79_0, q79_1, q79_2, s91, q79_5, sf_x, ha.xn, Option.toList_some, Option.toList_none, List.cons_append, List.nil_append]
      rw [if_neg hp, if_pos rfl]
      simp only [q79_8, q79_10]
    · intro K
      simp only [q152_0, q152_1, q152_2, sf_y, Option.toList_some, Option.toList_none, List.cons_append, List.nil_append]
      rw [s117 (by rw [ha.yn]; omega)]
      simp only [q152_5, ha.yn, Option.toList_some, Option.toList_none, List.cons_append, List.nil_append]
      rw [sf_inB_n (by omega), if_pos rfl]
      simp only [q152_8, q152_10]
end SFP21
