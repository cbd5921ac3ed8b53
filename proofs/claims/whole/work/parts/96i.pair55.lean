/-! plans: one thing of the reference -/
section SFP55
variable {V U : sf_MV} {n nx c ce cf cg : Nat}
theorem sf_bitn0 : ∀ m : Nat, m < 5 → ¬ sf_bit m = 0 := by decide +kernel
theorem sf_frz_all {S : Nat → Int} : ∀ m, m ≤ 5 → (sf_frz S m = 0 ↔ ∀ p, p < m → ¬ S (p + 4) = 0)
  | 0, _ => ⟨fun _ p hp => absurd hp (by omega), fun _ => rfl⟩
  | m + 1, hm => by
    have ih := sf_frz_all (S := S) m (by omega)
    rw [sf_frz_s]
    by_cases q : S (m + 4) = 0
    · rw [if_pos q]
      constructor
      · intro h
        exact absurd (Int32.or_eq_zero_iff.1 h).2 (sf_bitn0 m (by omega))
      · intro h
        exact absurd q (h m (by omega))
    · rw [if_neg q, ih]
      constructor
      · intro h p hp
        by_cases z : p = m
        · rw [z]; exact q
        · exact h p (by omega)
      · intro h p hp
        exact h p (by omega)
theorem sf_ff_frz {S : Nat → Int} (hn5 : n ≤ 5) : sf_ff (fun j => S (j + 4)) 0 n = -1 ↔ sf_frz S n = 0 := by
  rw [sf_frz_all n hn5]
  rcases sf_ff_P (f := fun j => S (j + 4)) n 0 with ⟨a1, a2⟩ | ⟨j, a1, a2, a3, a4, a5⟩
  · exact ⟨fun _ p hp => a2 p (by omega) (by omega), fun _ => a1⟩
  · constructor
    · intro h
      omega
    · intro h
      exact absurd a4 (h j (by omega))
/-- what the reference knows as it tries rows -/
def sf_QH (X : sf_MV) (n k : Nat) (g lg t : Int) (cold cost S T : Nat → Int) : Prop := (X 409 0 = (n : Int)) ∧ (X 409 1 = g) ∧ (X (sf_rf 409 2) = cold) ∧ (∀ e, e < 6 → X (sf_rf 409 3) e = cost e) ∧ (X (sf_rf 409 4) 1 = lg) ∧ (∀ j, j < 20 → X (sf_rf 409 29) (20 * k + j) = T j) ∧ (∀ j, j < 20 → j ≠ 3 → j ≠ 1 → T j = S j) ∧ (T 1 = lg - t) ∧ (sf_rok n (90099 + k) S) ∧ (0 ≤ t ∧ t ≤ 9 * k) ∧ (0 ≤ lg ∧ lg ≤ 9999) ∧ (t ≤ lg)
theorem sf_QH.pn {X : sf_MV} {n k : Nat} {g lg t : Int} {cold cost S T : Nat → Int} (h : sf_QH X n k g lg t cold cost S T) : X 409 0 = (n : Int) := h.1
theorem sf_QH.g {X : sf_MV} {n k : Nat} {g lg t : Int} {cold cost S T : Nat → Int} (h : sf_QH X n k g lg t cold cost S T) : X 409 1 = g := h.2.1
theorem sf_QH.pc {X : sf_MV} {n k : Nat} {g lg t : Int} {cold cost S T : Nat → Int} (h : sf_QH X n k g lg t cold cost S T) : X (sf_rf 409 2) = cold := h.2.2.1
theorem sf_QH.e {X : sf_MV} {n k : Nat} {g lg t : Int} {cold cost S T : Nat → Int} (h : sf_QH X n k g lg t cold cost S T) : ∀ e, e < 6 → X (sf_rf 409 3) e = cost e := h.2.2.2.1
theorem sf_QH.l {X : sf_MV} {n k : Nat} {g lg t : Int} {cold cost S T : Nat → Int} (h : sf_QH X n k g lg t cold cost S T) : X (sf_rf 409 4) 1 = lg := h.2.2.2.2.1
theorem sf_QH.p {X : sf_MV} {n k : Nat} {g lg t : Int} {cold cost S T : Nat → Int} (h : sf_QH X n k g lg t cold cost S T) : ∀ j, j < 20 → X (sf_rf 409 29) (20 * k + j) = T j := h.2.2.2.2.2.1
theorem sf_QH.r {X : sf_MV} {n k : Nat} {g lg t : Int} {cold cost S T : Nat → Int} (h : sf_QH X n k g lg t cold cost S T) : ∀ j, j < 20 → j ≠ 3 → j ≠ 1 → T j = S j := h.2.2.2.2.2.2.1
theorem sf_QH.t1 {X : sf_MV} {n k : Nat} {g lg t : Int} {cold cost S T : Nat → Int} (h : sf_QH X n k g lg t cold cost S T) : T 1 = lg - t := h.2.2.2.2.2.2.2.1
theorem sf_QH.o {X : sf_MV} {n k : Nat} {g lg t : Int} {cold cost S T : Nat → Int} (h : sf_QH X n k g lg t cold cost S T) : sf_rok n (90099 + k) S := h.2.2.2.2.2.2.2.2.1
theorem sf_QH.t {X : sf_MV} {n k : Nat} {g lg t : Int} {cold cost S T : Nat → Int} (h : sf_QH X n k g lg t cold cost S T) : 0 ≤ t ∧ t ≤ 9 * k := h.2.2.2.2.2.2.2.2.2.1
theorem sf_QH.lg {X : sf_MV} {n k : Nat} {g lg t : Int} {cold cost S T : Nat → Int} (h : sf_QH X n k g lg t cold cost S T) : 0 ≤ lg ∧ lg ≤ 9999 := h.2.2.2.2.2.2.2.2.2.2.1
theorem sf_QH.tl {X : sf_MV} {n k : Nat} {g lg t : Int} {cold cost S T : Nat → Int} (h : sf_QH X n k g lg t cold cost S T) : t ≤ lg := h.2.2.2.2.2.2.2.2.2.2.2
theorem sf_QH.mk {X : sf_MV} {n k : Nat} {g lg t : Int} {cold cost S T : Nat → Int} (h0 : X 409 0 = (n : Int)) (h1 : X 409 1 = g) (h2 : X (sf_rf 409 2) = cold) (h3 : ∀ e, e < 6 → X (sf_rf 409 3) e = cost e) (h4 : X (sf_rf 409 4) 1 = lg) (h5 : ∀ j, j < 20 → X (sf_rf 409 29) (20 * k + j) = T j) (h6 : ∀ j, j < 20 → j ≠ 3 → j ≠ 1 → T j = S j) (h7 : T 1 = lg - t) (h8 : sf_rok n (90099 + k) S) (h9 : 0 ≤ t ∧ t ≤ 9 * k) (h10 : 0 ≤ lg ∧ lg ≤ 9999) (h11 : t ≤ lg) : sf_QH X n k g lg t cold cost S T := ⟨h0, h1, h2, h3, h4, h5, h6, h7, h8, h9, h10, h11⟩
theorem s139_move {L k x : Nat} {g lg t want : Int} {cold cost S T : Nat → Int} {X : sf_MV} (hn : 0 < n) (hn5 : n ≤ 5) (hg : 0 ≤ g ∧ g ≤ 20) (hc : ∀ p, p < 5 → 0 ≤ cold p ∧ cold p ≤ 9) (hs : ∀ e, e < 6 → 0 ≤ cost e ∧ cost e ≤ 9) (hk : k < 3) (h : sf_QH X n k g lg t cold cost S T) (hx : x < 6 * n + 1) (hp : X (sf_rf 409 30) k = (x : Int) - 1) :
    (¬ t + sf_pcs n cost x ≤ lg → ∀ l4 l5 K, ∃ l4', sf_wp 18 none 139 28 [some (.inr (.inl (some 409))), some (.inl (L : Int)), some (.inl want), some (.inl (k : Int)), l4, l5] [] (sf_E X) K = sf_wp 18 none 139 174 [some (.inr (.inl (some 409))), some (.inl (L : Int)), some (.inl want), some (.inl (k : Int)), l4', some (.inl 0)] [] (sf_E (sf_put (sf_upd X (sf_rf 409 30) k (x : Int)) (sf_rf 409 28) 0 20 T)) K) ∧
    (t + sf_pcs n cost x ≤ lg → ∃ C : Nat → Int, (∀ j, j < 20 → j ≠ 3 → j ≠ 1 → C j = sf_pch n g cold S x j) ∧ C 1 = lg - (t + sf_pcs n cost x) ∧ ∀ l4 l5 K, ∃ l4', sf_wp 18 none 139 28 [some (.inr (.inl (some 409))), some (.inl (L : Int)), some (.inl want), some (.inl (k : Int)), l4, l5] [] (sf_E X) K = sf_wp 18 none 139 174 [some (.inr (.inl (some 409))), some (.inl (L : Int)), some (.inl want), some (.inl (k : Int)), l4', some (.inl (if ¬ want = -1 ∨ sf_frz (sf_pch n g cold S x) n = 0 then 1 else 0))] [] (sf_E (sf_put (sf_upd X (sf_rf 409 30) k (x : Int)) (sf_rf 409 28) 0 20 C)) K) := by
  have y30 := sf_c12_30 sf_y
  have y28 := sf_c12_28 sf_y
  have y3 := sf_c12_3 sf_y
  have b5 : k < 5 := by omega
  have ht := h.t
  have hlg := h.lg
  have htl := h.tl
  have hod := h.o.d
  have hoh := h.o.h
  have ow := h.o.w
  have or_ := h.o.r
  have T0 : T 0 = S 0 := h.r 0 (by decide) (by decide) (by decide)
  have T2 : T 2 = S 2 := h.r 2 (by decide) (by decide) (by decide)
  have hS0 : 0 ≤ S 0 ∧ S 0 < n := by omega
  generalize hX1 : sf_upd X (sf_rf 409 30) k (x : Int) = X1
  have e7 : X1 409 = X 409 := by rw [← hX1, sf_upd_ne (by simp [sf_Yne_rf])]
  have er : ∀ r, ¬ r = 30 → X1 (sf_rf 409 r) = X (sf_rf 409 r) := fun r hr => by rw [← hX1, sf_upd_ne (by simp [sf_rf_inj, hr])]
  have e30 : X1 (sf_rf 409 30) k = (x : Int) := by rw [← hX1, sf_upd_eq]
  have i0 : X1 409 0 = (n : Int) := by rw [e7]; exact h.pn
  have i1 : X1 409 1 = g := by rw [e7]; exact h.g
  have i2 : X1 (sf_rf 409 2) = cold := by rw [er 2 (by decide)]; exact h.pc
  have es : sf_put X1 (sf_rf 409 28) 0 20 (fun j => X1 (sf_rf 409 29) (20 * k + j)) = sf_put X1 (sf_rf 409 28) 0 20 T := sf_put_ext (fun j hj => by rw [er 29 (by decide)]; exact h.p j hj)
  have so30 : sf_put X1 (sf_rf 409 28) 0 20 T (sf_rf 409 30) = X1 (sf_rf 409 30) := sf_so_k (by decide)
  have so3 : sf_put X1 (sf_rf 409 28) 0 20 T (sf_rf 409 3) = X1 (sf_rf 409 3) := sf_so_k (by decide)
  have so1 : sf_put X1 (sf_rf 409 28) 0 20 T (sf_rf 409 28) 1 = lg - t := by rw [sf_put_at (by decide)]; exact h.t1
  have w6 : sf_w (6 * (n : Int)) = 6 * n := sf_w_small (by omega)
  have head : ∀ l4 l5 K, sf_wp 18 none 139 28 [some (.inr (.inl (some 409))), some (.inl (L : Int)), some (.inl want), some (.inl (k : Int)), l4, l5] [] (sf_E X) K = sf_wp (17 + 1) none 139 79 [some (.inr (.inl (some 409))), some (.inl (L : Int)), some (.inl want), some (.inl (k : Int)), some (.inl ((x : Int) - 1)), l5] [] (sf_E (sf_put X1 (sf_rf 409 28) 0 20 T)) K := fun l4 l5 K => by
    simp only [q139_28]
    rw [q139_29, if_neg (by omega)]
    simp only [q139_32, q139_33, q139_36, q139_37, q139_38, q139_39, q139_40, q139_41, sf_y, y30, sf_y30, sf_bd, b5, true_and, Int.toNat_natCast, hp]
    rw [sf_w_small (by omega), show (x : Int) - 1 + 1 = (x : Int) by omega, hX1]
    simp only [q139_42, q139_43, q139_46, q139_47, q139_48, q139_50, q139_51, q139_54, sf_y, y30, sf_y30, sf_bd, b5, true_and, Int.toNat_natCast, e30, i0, w6]
    rw [q139_55, if_pos (by omega)]
    simp only [q139_64, q139_65, q139_66, sf_y]
    rw [s138 (by omega), es]
    simp only [q139_69, q139_70, q139_73, q139_74, q139_75, q139_76, q139_77, sf_y, y30, sf_y30, so30, sf_bd, b5, true_and, Int.toNat_natCast, e30, Option.toList_some, Option.toList_none, List.cons_append, List.nil_append]
    rw [sf_w_small (by omega)]
  have fz : ∀ C : Nat → Int, (∀ j, j < 20 → j ≠ 3 → j ≠ 1 → C j = sf_pch n g cold S x j) → ∀ l4 K, sf_wp (17 + 1) none 139 154 [some (.inr (.inl (some 409))), some (.inl (L : Int)), some (.inl want), some (.inl (k : Int)), l4, some (.inl 1)] [] (sf_E (sf_put X1 (sf_rf 409 28) 0 20 C)) K = sf_wp 18 none 139 174 [some (.inr (.inl (some 409))), some (.inl (L : Int)), some (.inl want), some (.inl (k : Int)), l4, some (.inl (if ¬ want = -1 ∨ sf_frz (sf_pch n g cold S x) n = 0 then 1 else 0))] [] (sf_E (sf_put X1 (sf_rf 409 28) 0 20 C)) K := fun C hC l4 K => by
    simp only [q139_154, q139_155]
    rw [q139_156]
    by_cases hw : want = -1
    · rw [if_pos hw]
      simp only [q139_159, q139_160, sf_y]
      rw [s135 i0 hn5]
      simp only [q139_163, Option.toList_some, Option.toList_none, List.cons_append, List.nil_append]
      rw [q139_164]
      have ef := sf_ff_frz (S := C) hn5
      rw [sf_frz_congr n (fun p hp => hC (p + 4) (by omega) (by omega) (by omega))] at ef
      by_cases q : sf_frz (sf_pch n g cold S x) n = 0
      · rw [if_pos (ef.2 q), if_pos (Or.inr q)]
        simp only [q139_167, q139_168, q139_172]
      · rw [if_neg (fun z => q (ef.1 z)), if_neg (fun z => by rcases z with z | z; exact z hw; exact q z)]
        simp only [q139_171, q139_172]
    · rw [if_neg hw, if_pos (Or.inl hw)]
      simp only [q139_167, q139_168, q139_172]
  by_cases x0 : x = 0
  · have cs0 : sf_pcs n cost x = 0 := if_pos x0
    rw [cs0, Int.add_zero]
    refine ⟨fun z => absurd z (by omega), fun _ => ?_⟩
    have fx : ((sf_pfx n S x : Nat) : Int) = S 0 := by
      unfold sf_pfx
      rw [if_pos x0]
      omega
    refine ⟨sf_goes n g cold T (sf_pfx n S x), fun j j1 j2 j3 => ?_, by rw [sf_goes_1]; exact h.t1, fun l4 l5 K => ⟨some (.inl ((x : Int) - 1)), ?_⟩⟩
    · unfold sf_pch sf_goes sf_turn
      rw [T2]
      by_cases q : 4 ≤ j ∧ j < 4 + n
      · rw [if_pos q, if_pos q, h.r j j1 j2 j3]
      · rw [if_neg q, if_neg q]
        unfold sf_ru
        (repeat' split) <;> first | rfl | exact h.r j j1 j2 j3
    · rw [head]
      simp only [q139_79]
      rw [q139_81, if_pos (by omega)]
      simp only [q139_105, q139_106, q139_110, q139_112]
      rw [q139_114, if_neg (by decide)]
      simp only [q139_117]
      rw [q139_119, if_pos (by omega)]
      simp only [q139_140]
      rw [q139_142, if_neg (by decide)]
      simp only [q139_145, q139_146, sf_y]
      rw [s125 (d := 16) (V := X1) (S := T) (n := n) (t := sf_pfx n S x) i0 hn5 (by omega) (by rw [fx]; exact T0) (by rw [i1]; exact hg) (by rw [i2]; exact hc) (fun p hp => by rw [h.r (p + 4) (by omega) (by omega) (by omega)]; exact ow p hp) (by omega), i1, i2]
      simp only [q139_149, Option.toList_some, Option.toList_none, List.cons_append, List.nil_append]
      rw [q139_151, if_neg (by decide)]
      refine fz _ (fun j j1 j2 j3 => ?_) _ K
      unfold sf_pch sf_goes sf_turn
      rw [T2]
      by_cases q : 4 ≤ j ∧ j < 4 + n
      · rw [if_pos q, if_pos q, h.r j j1 j2 j3]
      · rw [if_neg q, if_neg q]
        unfold sf_ru
        (repeat' split) <;> first | rfl | exact h.r j j1 j2 j3
  · have he6 : (x - 1) / n < 6 := by
      rw [Nat.div_lt_iff_lt_mul hn]
      omega
    have hpm : (x - 1) % n < n := Nat.mod_lt _ hn
    have cs0 : sf_pcs n cost x = cost ((x - 1) / n) := by
      unfold sf_pcs
      rw [if_neg x0, if_pos he6]
    rw [cs0]
    have nz : ¬ (n : Int) = 0 := by omega
    have dv : ((x : Int) - 1).tdiv n = (((x - 1) / n : Nat) : Int) := by
      rw [show (x : Int) - 1 = ((x - 1 : Nat) : Int) by omega]
      exact (Int.ofNat_tdiv _ _).symm
    have md : ((x : Int) - 1).tmod n = (((x - 1) % n : Nat) : Int) := by
      rw [show (x : Int) - 1 = ((x - 1 : Nat) : Int) by omega]
      exact (Int.ofNat_tmod _ _).symm
    generalize hee : (x - 1) / n = e at he6 dv cs0 ⊢
    generalize hpp : (x - 1) % n = p at hpm md
    have ce9 := hs e he6
    have e3 : X1 (sf_rf 409 3) e = cost e := by rw [er 3 (by decide)]; exact h.e e he6
    have mid : ∀ l4 l5 K, sf_wp 18 none 139 28 [some (.inr (.inl (some 409))), some (.inl (L : Int)), some (.inl want), some (.inl (k : Int)), l4, l5] [] (sf_E X) K = if lg - t < cost e then sf_wp (17 + 1) none 139 109 [some (.inr (.inl (some 409))), some (.inl (L : Int)), some (.inl want), some (.inl (k : Int)), some (.inl ((x : Int) - 1)), l5] [] (sf_E (sf_put X1 (sf_rf 409 28) 0 20 T)) K else sf_wp (17 + 1) none 139 105 [some (.inr (.inl (some 409))), some (.inl (L : Int)), some (.inl want), some (.inl (k : Int)), some (.inl ((x : Int) - 1)), l5] [] (sf_E (sf_put X1 (sf_rf 409 28) 0 20 T)) K := fun l4 l5 K => by
      rw [head]
      simp only [q139_79]
      rw [q139_81, if_neg (by omega)]
      simp only [q139_84, q139_85, q139_88, q139_90, q139_91, q139_94, sf_y, sf_so_y, i0, nz, not_false_eq_true, true_and, dv]
      rw [sf_w_small (by omega)]
      simp (decide := true) only [q139_95, q139_96, q139_97, q139_100, q139_101, sf_y, y3, y28, sf_y3, sf_y28, so3, so1, e3, sf_bd, he6, true_and, Int.toNat_natCast, Int.reduceToNat]
      rw [q139_102]
    refine ⟨fun z l4 l5 K => ⟨some (.inl ((x : Int) - 1)), ?_⟩, fun z => ?_⟩
    · rw [mid, if_pos (by omega)]
      simp only [q139_109, q139_110, q139_112]
      rw [q139_114, if_pos rfl]
      simp only [q139_140]
      rw [q139_142, if_pos rfl]
      simp only [q139_149]
      rw [q139_151, if_pos rfl]
      simp only [q139_171, q139_172]
    · have rqT : sf_req n (sf_ru T 1 0) (sf_ru S 1 0) := sf_req_self hn5 (fun j j1 j2 => by
        by_cases q : j = 1
        · rw [q, sf_ru_eq, sf_ru_eq]
        · rw [sf_ru_ne q, sf_ru_ne q]
          exact h.r j j1 j2 q)
      have lk : sf_likes n T (T (e + 14)) (p : Int) = sf_likes n S (S (e + 14)) (p : Int) := by
        rw [h.r (e + 14) (by omega) (by omega) (by omega), ← sf_likes_ru1 (S := T) (v := 0), ← sf_likes_ru1 (S := S) (v := 0)]
        exact sf_likes_c rqT
      have fx : ((sf_pfx n S x : Nat) : Int) = sf_likes n S (S (e + 14)) (p : Int) ∧ sf_pfx n S x < n := by
        unfold sf_pfx
        rw [if_neg x0, hee, hpp]
        obtain ⟨t, ht, ht5⟩ := sf_likes_in (n := n) (S := S) (k := S (e + 14)) (p := (p : Int)) hn (by omega) (by omega)
        rw [ht]
        omega
      have hC : ∀ j, j < 20 → j ≠ 3 → j ≠ 1 → sf_goes n g cold (sf_ru T 1 (T 1 - cost e)) (sf_pfx n S x) j = sf_pch n g cold S x j := fun j j1 j2 j3 => by
        rw [sf_goes_ru1, sf_ru_ne j3]
        unfold sf_pch sf_goes sf_turn
        rw [T2]
        by_cases q : 4 ≤ j ∧ j < 4 + n
        · rw [if_pos q, if_pos q, h.r j j1 j2 j3]
        · rw [if_neg q, if_neg q]
          unfold sf_ru
          (repeat' split) <;> first | rfl | exact h.r j j1 j2 j3
      have hT1 := h.t1
      refine ⟨sf_goes n g cold (sf_ru T 1 (T 1 - cost e)) (sf_pfx n S x), hC, by rw [sf_goes_1, sf_ru_eq]; omega, fun l4 l5 K => ⟨some (.inl ((x : Int) - 1)), ?_⟩⟩
      rw [mid, if_neg (by omega)]
      simp only [q139_105, q139_106, q139_110, q139_112]
      rw [q139_114, if_neg (by decide)]
      simp only [q139_117]
      rw [q139_119, if_neg (by omega)]
      simp only [q139_122, q139_123, q139_125, q139_126, q139_129, q139_130, q139_132, q139_133, q139_136, sf_y, sf_so_y, i0, nz, not_false_eq_true, true_and, dv, md]
      rw [sf_w_small (by omega)]
      simp only [q139_137, sf_y]
      rw [s124 (d := 16) (V := X1) (S := T) (n := n) (e := e) (p := (p : Int)) i0 hn hn5 he6 (by rw [h.r (e + 14) (by omega) (by omega) (by omega)]; exact or_ e he6) (by omega) (by omega) (by omega) (by rw [e3]; exact ce9)]
      simp only [q139_140, Option.toList_some, Option.toList_none, List.cons_append, List.nil_append]
      rw [q139_142, if_neg (by decide)]
      simp only [q139_145, q139_146, sf_y]
      rw [s125 (d := 16) (V := X1) (S := sf_ru (sf_ru T 1 (T 1 - X1 (sf_rf 409 3) e)) 0 (sf_likes n T (T (e + 14)) (p : Int))) (n := n) (t := sf_pfx n S x) i0 hn5 (by omega) (by rw [sf_ru_eq, lk, fx.1]) (by rw [i1]; exact hg) (by rw [i2]; exact hc) (fun p hp => by rw [sf_ru_ne (by omega), sf_ru_ne (by omega), h.r (p + 4) (by omega) (by omega) (by omega)]; exact ow p hp) (by rw [sf_ru_ne (by omega), sf_ru_ne (by omega)]; omega), i1, i2, e3, lk, ← fx.1, sf_goes_d]
      simp only [q139_149, Option.toList_some, Option.toList_none, List.cons_append, List.nil_append]
      rw [q139_151, if_neg (by decide)]
      exact fz _ hC _ K
end SFP55
