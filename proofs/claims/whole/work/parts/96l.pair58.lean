/-! plans: both, and what they tell -/
section SFP58
variable {V X U : sf_MV} {n nx c ce cf cg : Nat}
theorem sf_RR_px (R : sf_RR V n nx c ce cf cg) {W : sf_MV} (h : ∀ x, ¬ x = sf_rf 0 10 → ¬ x = sf_rf (sf_rf (sf_rf 0 10) 1) 0 → ¬ x = sf_rf (sf_rf (sf_rf 0 10) 2) 0 → ¬ x = sf_rf (sf_rf (sf_rf 0 10) 3) 0 → ¬ x = sf_rf (sf_rf (sf_rf 0 10) 4) 0 → (∀ t, t < 4 → ¬ x = sf_px t ∧ ¬ x = sf_rf (sf_rf (sf_px t) 0) 0 ∧ ¬ x = sf_rf (sf_rf (sf_px t) 1) 0 ∧ ¬ x = sf_rf (sf_rf (sf_px t) 2) 0) → W x = V x) : sf_RR W n nx c ce cf cg := by
  refine sf_RR_frame R (fun j hj _ => ?_) (fun j i _ _ => ?_) (fun j i k hj _ => ?_) (fun i => ?_) (fun i j => ?_) (fun i => ?_) (fun i j => ?_) (fun j _ => ?_) ?_ (fun j _ => ?_)
  · rw [h _ (by simp [sf_rf_inj]; omega) (by simp [sf_rf_inj, sf_0ne_rf]) (by simp [sf_rf_inj, sf_0ne_rf]) (by simp [sf_rf_inj, sf_0ne_rf]) (by simp [sf_rf_inj, sf_0ne_rf]) (fun t _ => by simp [sf_px, sf_rf_inj, sf_0ne_rf])]
  · rw [h _ (by simp [sf_rf_inj, sf_rf_ne0]) (by simp [sf_rf_inj, sf_0ne_rf]) (by simp [sf_rf_inj, sf_0ne_rf]) (by simp [sf_rf_inj, sf_0ne_rf]) (by simp [sf_rf_inj, sf_0ne_rf]) (fun t _ => by simp [sf_px, sf_rf_inj, sf_0ne_rf])]
  · rw [h _ (by simp [sf_rf_inj, sf_rf_ne0]) (by simp [sf_rf_inj]; omega) (by simp [sf_rf_inj]; omega) (by simp [sf_rf_inj]; omega) (by simp [sf_rf_inj]; omega) (fun t _ => by simp [sf_px, sf_rf_inj, sf_0ne_rf])]
  · rw [h _ (by simp [sf_rg, sf_rf_inj, sf_rf_ne0]) (by simp [sf_rg, sf_rf_inj, sf_rf_ne0]) (by simp [sf_rg, sf_rf_inj, sf_rf_ne0]) (by simp [sf_rg, sf_rf_inj, sf_rf_ne0]) (by simp [sf_rg, sf_rf_inj, sf_rf_ne0]) (fun t _ => by simp [sf_rg, sf_px, sf_rf_inj, sf_0ne_rf, sf_rf_ne0])]
  · rw [h _ (by simp [sf_rg, sf_rf_inj, sf_rf_ne0]) (by simp [sf_rg, sf_rf_inj, sf_rf_ne0]) (by simp [sf_rg, sf_rf_inj, sf_rf_ne0]) (by simp [sf_rg, sf_rf_inj, sf_rf_ne0]) (by simp [sf_rg, sf_rf_inj, sf_rf_ne0]) (fun t _ => by simp [sf_rg, sf_px, sf_rf_inj, sf_0ne_rf, sf_rf_ne0])]
  · rw [h _ (by simp [sf_sh, sf_rf_inj, sf_rf_ne0]) (by simp [sf_sh, sf_rf_inj, sf_rf_ne0]) (by simp [sf_sh, sf_rf_inj, sf_rf_ne0]) (by simp [sf_sh, sf_rf_inj, sf_rf_ne0]) (by simp [sf_sh, sf_rf_inj, sf_rf_ne0]) (fun t _ => by simp [sf_sh, sf_px, sf_rf_inj, sf_0ne_rf, sf_rf_ne0])]
  · rw [h _ (by simp [sf_sh, sf_rf_inj, sf_rf_ne0]) (by simp [sf_sh, sf_rf_inj, sf_rf_ne0]) (by simp [sf_sh, sf_rf_inj, sf_rf_ne0]) (by simp [sf_sh, sf_rf_inj, sf_rf_ne0]) (by simp [sf_sh, sf_rf_inj, sf_rf_ne0]) (fun t _ => by simp [sf_sh, sf_px, sf_rf_inj, sf_0ne_rf, sf_rf_ne0])]
  · rw [h _ (by simp [sf_Yne_rf]) (by simp [sf_Yne_rf]) (by simp [sf_Yne_rf]) (by simp [sf_Yne_rf]) (by simp [sf_Yne_rf]) (fun t _ => by simp [sf_px, sf_Yne_rf])]
  · rw [h _ (by simp [sf_0ne_rf]) (by simp [sf_0ne_rf]) (by simp [sf_0ne_rf]) (by simp [sf_0ne_rf]) (by simp [sf_0ne_rf]) (fun t _ => by simp [sf_px, sf_0ne_rf])]
  · rw [h _ (by simp [sf_rf_inj]) (by simp [sf_rf_inj, sf_Yne_rf]) (by simp [sf_rf_inj, sf_Yne_rf]) (by simp [sf_rf_inj, sf_Yne_rf]) (by simp [sf_rf_inj, sf_Yne_rf]) (fun t _ => by simp [sf_px, sf_rf_inj, sf_Yne_rf])]
theorem sf_pfx_c {S T : Nat → Int} (hq : sf_req n S T) {x : Nat} (hx : x = 0 ∨ (x - 1) / n < 6) : sf_pfx n S x = sf_pfx n T x := by
  unfold sf_pfx
  by_cases q : x = 0
  · rw [if_pos q, if_pos q, hq.d]
  · have h6 : (x - 1) / n < 6 := by
      rcases hx with h | h
      · exact absurd h q
      · exact h
    rw [if_neg q, if_neg q, sf_likes_c hq, hq.r _ h6]
theorem sf_pfx_lt {S : Nat → Int} (hn : 0 < n) (hd : 0 ≤ S 0 ∧ S 0 < n) {x : Nat} : sf_pfx n S x < n := by
  unfold sf_pfx
  by_cases q : x = 0
  · rw [if_pos q]
    omega
  · rw [if_neg q]
    have hm : (x - 1) % n < n := Nat.mod_lt _ hn
    obtain ⟨t, ht, ht5⟩ := sf_likes_in (n := n) (S := S) (k := S ((x - 1) / n + 14)) (p := (((x - 1) % n : Nat) : Int)) hn (by omega) hd
    rw [ht]
    omega
/-- like rows give the same search -/
theorem sf_r3_c {g lg want : Int} {cold cold' cst dc : Nat → Int} (hn : 0 < n) (hn5 : n ≤ 5) (hc : ∀ p, p < n → cold p = cold' p) : ∀ r k S T t d pk B, sf_req n S T → (0 ≤ S 0 ∧ S 0 < n) → sf_r3 (6 * n + 1) lg cst dc (sf_pch n g cold) (sf_pal n want) r k S t d pk B = sf_r3 (6 * n + 1) lg cst dc (sf_pch n g cold') (sf_pal n want) r k T t d pk B
  | 0, _, _, _, _, _, _, _, _, _ => rfl
  | r + 1, k, S, T, t, d, pk, B, hq, hd => by
    unfold sf_r3
    have key : ∀ m, m ≤ 6 * n + 1 → sf_fld (fun x B => if t + cst x ≤ lg ∧ sf_pal n want r (sf_pch n g cold S x) = true then sf_r3 (6 * n + 1) lg cst dc (sf_pch n g cold) (sf_pal n want) r (k + 1) (sf_pch n g cold S x) (t + cst x) (d + dc x) (sf_upn pk k x) B else B) m B = sf_fld (fun x B => if t + cst x ≤ lg ∧ sf_pal n want r (sf_pch n g cold' T x) = true then sf_r3 (6 * n + 1) lg cst dc (sf_pch n g cold') (sf_pal n want) r (k + 1) (sf_pch n g cold' T x) (t + cst x) (d + dc x) (sf_upn pk k x) B else B) m B := by
      intro m
      induction m with
      | zero => intro _; rfl
      | succ m ih =>
        intro hm
        have hx6 : m = 0 ∨ (m - 1) / n < 6 := by
          by_cases q : m = 0
          · exact Or.inl q
          · right
            rw [Nat.div_lt_iff_lt_mul hn]
            omega
        have fx := sf_pfx_c hq hx6
        have fl := sf_pfx_lt (x := m) hn hd
        have rq : sf_req n (sf_pch n g cold S m) (sf_pch n g cold' T m) := by
          unfold sf_pch
          rw [← fx]
          exact sf_req_goes hq hn5 fl hc
        have d0 : 0 ≤ sf_pch n g cold S m 0 ∧ sf_pch n g cold S m 0 < n := by
          unfold sf_pch
          rw [sf_goes_0]
          omega
        have pl : sf_pal n want r (sf_pch n g cold S m) = sf_pal n want r (sf_pch n g cold' T m) := by
          unfold sf_pal
          rw [sf_frz_congr n rq.w, rq.d]
        show (if _ then _ else _) = (if _ then _ else _)
        rw [ih (by omega), pl, sf_r3_c hn hn5 hc r (k + 1) _ _ _ _ _ _ rq d0]
    exact key (6 * n + 1) (Nat.le_refl _)
/-- what is told of the best -/
def sf_tel (n L : Nat) (B : Int × Int × (Nat → Nat)) (i : Int) : Int := if B.1 = -1 then -1 else if i = -1 then B.1 else if 0 ≤ i ∧ i ≤ (L : Int) - 1 then sf_pco n (B.2.2 i.toNat) else -1
theorem s18 {d L : Nat} {i : Int} {B : Int × Int × (Nat → Nat)} {K : Option sf_V → sf_M → Prop} (hL : L ≤ 3) (h4 : V (sf_rf 0 10) 5 = (L : Int)) (hR : sf_RP L n V B) : sf_wp (d + 1) none 18 0 [some (.inr (.inl (some (sf_rf 0 10)))), some (.inl i)] [] (sf_E V) K = K (some (.inl (sf_tel n L B i))) (sf_E V) := by
  have x10 := sf_c11_10 sf_x
  have p2 := sf_c5_2 x10
  obtain ⟨m1, m2, m3, m4, m5⟩ := sf_pxLen
  unfold sf_tel
  simp only [q18_0, q18_1, x10]
  rw [q18_4]
  rcases hR with ⟨h1, h2⟩ | ⟨h1, h2, h3, h5, h6⟩
  · rw [h2, if_pos rfl, if_pos h1]
    simp only [q18_20, q18_21]
  · rw [h2, if_neg (by decide), if_neg (by omega)]
    simp only [q18_7, q18_8]
    rw [q18_9]
    by_cases q1 : i < -1
    · rw [if_pos q1, if_neg (by omega), if_neg (by omega)]
      simp only [q18_20, q18_21]
    · rw [if_neg q1]
      simp only [q18_12, q18_13, q18_14, x10, h4]
      rw [q18_17]
      by_cases q2 : i < L
      · rw [if_pos q2]
        simp only [q18_22, q18_23]
        rw [q18_24]
        by_cases q3 : i = -1
        · rw [if_pos q3, if_pos q3]
          simp only [q18_27, q18_28, q18_31, q18_42, x10, h3]
        · have rd : sf_rd V (sf_rf (sf_rf (sf_rf 0 10) 2) 0) i = sf_pco n (B.2.2 i.toNat) := by
            rw [sf_rd_in (by omega) (by omega)]
            exact h6 _ (by omega)
          rw [if_neg q3, if_neg q3, if_pos (by omega)]
          simp only [q18_34, q18_35, q18_38, x10]
          simp only [q18_39, p2, s31, rd, q18_42, Option.toList_some, Option.toList_none, List.cons_append, List.nil_append]
      · rw [if_neg q2, if_neg (by omega), if_neg (by omega)]
        simp only [q18_20, q18_21]
theorem s141 {L : Nat} {i : Int} {B : Int × Int × (Nat → Nat)} {K : Option sf_V → sf_M → Prop} (hn : 0 < n) (hn5 : n ≤ 5) (hL : L ≤ 3) (h0 : X 409 0 = (n : Int)) (hR : sf_RQ L X B) (hB : ∀ j, j < L → B.1 = -1 ∨ B.2.2 j < 6 * n + 1) : sf_wp 18 none 141 0 [some (.inr (.inl (some 409))), some (.inl (L : Int)), some (.inl i), none] [] (sf_E X) K = K (some (.inl (sf_tel n L B i))) (sf_E X) := by
  have y31 := sf_c12_31 sf_y
  obtain ⟨h1, h2⟩ := hR
  have nz : ¬ (n : Int) = 0 := by omega
  unfold sf_tel
  simp only [q141_0, q141_1, q141_4, sf_y, h1]
  rw [q141_5]
  by_cases q1 : B.1 = -1
  · rw [if_pos q1, if_pos q1]
    simp only [q141_13, q141_14, q141_17, sf_y, h1, q1]
  · rw [if_neg q1, if_neg q1]
    simp only [q141_8, q141_9]
    rw [q141_10]
    by_cases q3 : i = -1
    · rw [if_pos q3, if_pos q3]
      simp only [q141_13, q141_14, q141_17, sf_y, h1]
    · rw [if_neg q3, if_neg q3]
      simp only [q141_18, q141_19, q141_20, q141_21, q141_22, q141_23, q141_24, q141_25]
      rw [sf_w_small (n := (L : Int) - 1) (by omega), q141_28]
      by_cases q2 : 0 ≤ i ∧ i ≤ (L : Int) - 1
      · obtain ⟨j, rfl⟩ : ∃ j : Nat, i = (j : Int) := ⟨i.toNat, by omega⟩
        have hj : j < L := by omega
        have b : j < 4 := by omega
        have e : X (sf_rf 409 31) j = (B.2.2 j : Int) := by
          rcases h2 with h2 | h2
          · exact absurd h2 q1
          · exact h2.2.2 j hj
        have hb : B.2.2 j < 6 * n + 1 := by
          rcases hB j hj with h | h
          · exact absurd h q1
          · exact h
        rw [sf_inB_y q2, if_neg (by decide), if_pos q2, Int.toNat_natCast]
        simp only [q141_33, q141_34, q141_37, q141_38, q141_39, q141_40, q141_41, q141_42, sf_y, y31, sf_y31, sf_bd, b, true_and, Int.toNat_natCast, e]
        rw [sf_w_small (by omega), q141_43]
        generalize B.2.2 j = x at hb ⊢
        unfold sf_pco
        by_cases x0 : x = 0
        · rw [if_neg (by omega), if_pos x0]
          simp only [q141_46, q141_48, q141_67]
        · have dv : ((x : Int) - 1).tdiv n = (((x - 1) / n : Nat) : Int) := by
            rw [show (x : Int) - 1 = ((x - 1 : Nat) : Int) by omega]
            exact (Int.ofNat_tdiv _ _).symm
          have md : ((x : Int) - 1).tmod n = (((x - 1) % n : Nat) : Int) := by
            rw [show (x : Int) - 1 = ((x - 1 : Nat) : Int) by omega]
            exact (Int.ofNat_tmod _ _).symm
          have he6 : (x - 1) / n < 6 := by
            rw [Nat.div_lt_iff_lt_mul hn]
            omega
          have hpm : (x - 1) % n < n := Nat.mod_lt _ hn
          rw [if_pos (by omega), if_neg x0]
          simp only [q141_51, q141_53, q141_54, q141_55, q141_58, q141_59, q141_60, q141_61, q141_62, q141_65, q141_66, q141_67, sf_y, h0, nz, not_false_eq_true, true_and, dv, md]
          generalize (x - 1) / n = e at he6 ⊢
          generalize (x - 1) % n = p at hpm ⊢
          rw [sf_w_small (n := (e : Int)) (by omega), sf_w_small (n := 10 * (e : Int)) (by omega), sf_w_small (by omega)]
          rfl
      · rw [sf_inB_n q2, if_pos rfl, if_neg q2]
        simp only [q141_31, q141_32]
end SFP58
