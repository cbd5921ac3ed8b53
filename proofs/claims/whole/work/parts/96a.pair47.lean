/-! duel: a turn of the reference -/
section SFP47
variable {V U : sf_MV} {n nx c ce cf cg : Nat}
/-- a row of the reference in a game k turns old: logs may be owed -/
def sf_rk (n k : Nat) (T : Nat → Int) : Prop := (0 ≤ T 0 ∧ T 0 < n) ∧ (-(9 * (k : Int)) ≤ T 1 ∧ T 1 ≤ 9999) ∧ (0 ≤ T 2 ∧ T 2 ≤ 90099 + k) ∧ (∀ p, p < 5 → 0 ≤ T (p + 4) ∧ T (p + 4) ≤ 99) ∧ (∀ e, e < 6 → 0 ≤ T (e + 14) ∧ T (e + 14) ≤ 6)
theorem sf_rk.d {n k : Nat} {T : Nat → Int} (h : sf_rk n k T) : 0 ≤ T 0 ∧ T 0 < n := h.1
theorem sf_rk.l {n k : Nat} {T : Nat → Int} (h : sf_rk n k T) : -(9 * (k : Int)) ≤ T 1 ∧ T 1 ≤ 9999 := h.2.1
theorem sf_rk.h {n k : Nat} {T : Nat → Int} (h : sf_rk n k T) : 0 ≤ T 2 ∧ T 2 ≤ 90099 + k := h.2.2.1
theorem sf_rk.w {n k : Nat} {T : Nat → Int} (h : sf_rk n k T) : ∀ p, p < 5 → 0 ≤ T (p + 4) ∧ T (p + 4) ≤ 99 := h.2.2.2.1
theorem sf_rk.r {n k : Nat} {T : Nat → Int} (h : sf_rk n k T) : ∀ e, e < 6 → 0 ≤ T (e + 14) ∧ T (e + 14) ≤ 6 := h.2.2.2.2
theorem sf_rk.mk {n k : Nat} {T : Nat → Int} (h0 : 0 ≤ T 0 ∧ T 0 < n) (h1 : -(9 * (k : Int)) ≤ T 1 ∧ T 1 ≤ 9999) (h2 : 0 ≤ T 2 ∧ T 2 ≤ 90099 + k) (h3 : ∀ p, p < 5 → 0 ≤ T (p + 4) ∧ T (p + 4) ≤ 99) (h4 : ∀ e, e < 6 → 0 ≤ T (e + 14) ∧ T (e + 14) ≤ 6) : sf_rk n k T := ⟨h0, h1, h2, h3, h4⟩
theorem sf_rk_goes {k t : Nat} {g v : Int} {cold T : Nat → Int} (h : sf_rk n k T) (hn5 : n ≤ 5) (ht : t < n) (hg : 0 ≤ g) (hc : ∀ p, p < 5 → 0 ≤ cold p) (hv : -(9 * ((k + 1 : Nat) : Int)) ≤ v ∧ v ≤ 9999) : sf_rk n (k + 1) (sf_goes n g cold (sf_ru T 1 v) t) := by
  have hh := h.h
  refine sf_rk.mk ?_ ?_ ?_ ?_ ?_
  · rw [sf_goes_0]; omega
  · rw [sf_goes_1, sf_ru_eq]; exact hv
  · rw [sf_goes_2, sf_ru_ne (by omega)]; omega
  · intro p hp
    have := h.w p hp
    by_cases q : p < n
    · have := hc p hp
      rw [sf_goes_w q, sf_ru_ne (by omega)]
      split
      · split <;> omega
      · split <;> omega
    · rw [sf_goes_k (by omega), sf_turn_w hp, sf_ru_ne (by omega)]; exact this
  · intro e he
    rw [sf_goes_14 hn5 (by omega), sf_ru_ne (by omega)]; exact h.r e he
/-- what the playing of a turn may change -/
def sf_FD (k : Nat) (X X' : sf_MV) : Prop := (∀ a, ¬ a = sf_rf 409 28 → ¬ a = sf_rf 409 29 → ¬ a = sf_rf 409 30 → ¬ a = sf_rf 409 34 → X' a = X a) ∧ (∀ j, j < 20 * (k + 1) → X' (sf_rf 409 29) j = X (sf_rf 409 29) j) ∧ ∀ j, j < k → X' (sf_rf 409 30) j = X (sf_rf 409 30) j ∧ X' (sf_rf 409 34) j = X (sf_rf 409 34) j
theorem sf_FD_refl {k : Nat} {X : sf_MV} : sf_FD k X X := ⟨fun _ _ _ _ _ => rfl, fun _ _ => rfl, fun _ _ => ⟨rfl, rfl⟩⟩
theorem sf_FD_trans {k : Nat} {X1 X2 X3 : sf_MV} (h : sf_FD k X1 X2) (g : sf_FD k X2 X3) : sf_FD k X1 X3 :=
  ⟨fun a q1 q2 q3 q4 => by rw [g.1 a q1 q2 q3 q4, h.1 a q1 q2 q3 q4], fun j q => by rw [g.2.1 j q, h.2.1 j q], fun j q => ⟨by rw [(g.2.2 j q).1, (h.2.2 j q).1], by rw [(g.2.2 j q).2, (h.2.2 j q).2]⟩⟩
theorem sf_FD_le {k k' : Nat} {X1 X2 : sf_MV} (h : sf_FD k' X1 X2) (hk : k ≤ k') : sf_FD k X1 X2 :=
  ⟨h.1, fun j q => h.2.1 j (by omega), fun j q => h.2.2 j (by omega)⟩
/-- one thing of one turn: the reference's row behind it -/
theorem s144_move {g a b N what fst : Int} {cold : Nat → Int} {X : sf_MV} {T : Nat → Int} {k x : Nat} (hn : 0 < n) (hn5 : n ≤ 5) (ha : 0 ≤ a ∧ a < n) (hb : 0 ≤ b ∧ b < n) (hg : 0 ≤ g ∧ g ≤ 20) (hc : ∀ p, p < 5 → 0 ≤ cold p ∧ cold p ≤ 9)
    (h0 : X 409 0 = (n : Int)) (h1 : X 409 1 = g) (h2 : X (sf_rf 409 2) = cold) (h3 : ∀ e, e < 6 → 0 ≤ X (sf_rf 409 3) e ∧ X (sf_rf 409 3) e ≤ 9) (hk : k < 4) (hx : x < 7) (hT : ∀ j, j < 20 → X (sf_rf 409 29) (20 * k + j) = T j) (hr : sf_rk n k T) (hp : X (sf_rf 409 30) k = (x : Int) - 1) :
    ∃ v, (-(9 * ((k + 1 : Nat) : Int)) ≤ v ∧ v ≤ 9999) ∧ ∀ l7 l8 l9 K, sf_wp 19 none 144 79 [some (.inr (.inl (some 409))), some (.inl a), some (.inl b), some (.inl N), some (.inl what), some (.inl (k : Int)), some (.inl fst), l7, l8, l9] [] (sf_E X) K =
      sf_wp 19 none 144 164 [some (.inr (.inl (some 409))), some (.inl a), some (.inl b), some (.inl N), some (.inl what), some (.inl (k : Int)), some (.inl fst), some (.inl 0), l8, l9] [] (sf_E (sf_put (sf_upd X (sf_rf 409 30) k (x : Int)) (sf_rf 409 28) 0 20 (sf_goes n g cold (sf_ru T 1 v) (sf_ntx n T (sf_who a b k) x)))) K := by
  have y30 := sf_c12_30 sf_y
  have hw : 0 ≤ sf_who a b k ∧ sf_who a b k < n := by
    unfold sf_who
    split <;> assumption
  have hd := hr.d
  have hl := hr.l
  have hh := hr.h
  obtain ⟨nt1, nt5⟩ := sf_ntx_in (x := x) hn hw hd
  have b5 : k < 5 := by omega
  generalize hX1 : sf_upd X (sf_rf 409 30) k (x : Int) = X1
  have e0 : X1 409 0 = (n : Int) := by rw [← hX1, sf_upd_ne (by simp [sf_Yne_rf])]; exact h0
  have e1 : X1 409 1 = g := by rw [← hX1, sf_upd_ne (by simp [sf_Yne_rf])]; exact h1
  have e2 : X1 (sf_rf 409 2) = cold := by rw [← hX1, sf_upd_ne (by simp [sf_rf_inj])]; exact h2
  have e3 : X1 (sf_rf 409 3) = X (sf_rf 409 3) := by rw [← hX1, sf_upd_ne (by simp [sf_rf_inj])]
  have e29 : X1 (sf_rf 409 29) = X (sf_rf 409 29) := by rw [← hX1, sf_upd_ne (by simp [sf_rf_inj])]
  have e30 : X1 (sf_rf 409 30) k = (x : Int) := by rw [← hX1, sf_upd_eq]
  have es : sf_put X1 (sf_rf 409 28) 0 20 (fun j => X1 (sf_rf 409 29) (20 * k + j)) = sf_put X1 (sf_rf 409 28) 0 20 T := sf_put_ext (fun j hj => by rw [e29]; exact hT j hj)
  have head : ∀ l7 l8 l9 K, sf_wp 19 none 144 79 [some (.inr (.inl (some 409))), some (.inl a), some (.inl b), some (.inl N), some (.inl what), some (.inl (k : Int)), some (.inl fst), l7, l8, l9] [] (sf_E X) K = sf_wp (18 + 1) none 144 125 [some (.inr (.inl (some 409))), some (.inl a), some (.inl b), some (.inl N), some (.inl what), some (.inl (k : Int)), some (.inl fst), some (.inl 0), l8, l9] [] (sf_E (sf_put X1 (sf_rf 409 28) 0 20 T)) K := fun l7 l8 l9 K => by
    simp only [q144_79]
    rw [q144_81, if_neg (by omega)]
    simp only [q144_84, q144_85, q144_88, q144_90, q144_91, q144_92, q144_93, q144_94, sf_y, y30, sf_y30, sf_bd, b5, true_and, Int.toNat_natCast, hp]
    rw [sf_w_small (by omega), show (x : Int) - 1 + 1 = (x : Int) by omega, hX1]
    simp only [q144_95, q144_96, q144_99, q144_101, q144_102, sf_y, y30, sf_y30, sf_bd, b5, true_and, Int.toNat_natCast, e30]
    rw [q144_104, if_pos (by omega)]
    simp only [q144_111, q144_112, q144_114]
    rw [q144_116, if_pos rfl]
    simp only [q144_119, q144_120, q144_122, sf_y]
    rw [s138 (by omega), es]
    simp only [Option.toList_some, Option.toList_none, List.cons_append, List.nil_append]
  have so30 : sf_put X1 (sf_rf 409 28) 0 20 T (sf_rf 409 30) = X1 (sf_rf 409 30) := sf_so_k (by decide)
  have e22 : (2 : Int) ≠ 0 := by decide
  by_cases hx6 : x < 6
  · rw [if_pos hx6] at nt1
    have hcs := h3 x hx6
    refine ⟨T 1 - X (sf_rf 409 3) x, by omega, fun l7 l8 l9 K => ?_⟩
    rw [head]
    have s124' := fun K => s124 (d := 17) (V := X1) (S := T) (n := n) (e := x) (p := sf_who a b k) (K := K) e0 hn hn5 hx6 (hr.r x hx6) hw hd (by omega) (by rw [e3]; exact hcs)
    have s125' := fun K => s125 (d := 17) (V := X1) (S := sf_ru (sf_ru T 1 (T 1 - X1 (sf_rf 409 3) x)) 0 (sf_likes n T (T (x + 14)) (sf_who a b k))) (n := n) (t := sf_ntx n T (sf_who a b k) x) (K := K) e0 hn5 (by omega) (by rw [sf_ru_eq, nt1]) (by rw [e1]; exact hg) (by rw [e2]; exact hc) (fun p hp => by rw [sf_ru_ne (by omega), sf_ru_ne (by omega)]; exact hr.w p hp) (by rw [sf_ru_ne (by omega), sf_ru_ne (by omega)]; omega)
    simp only [q144_125, q144_126, q144_129, q144_131, q144_132, sf_y, y30, sf_y30, so30, sf_bd, b5, true_and, Int.toNat_natCast, e30]
    rw [q144_134, if_neg (by omega)]
    simp only [q144_137, q144_138, q144_139, q144_142, q144_144, q144_145, q144_147, q144_148, sf_y, y30, sf_y30, so30, sf_bd, b5, true_and, Int.toNat_natCast, e30, e22, ne_eq, not_false_eq_true, sf_tm2k]
    rw [q144_149]
    have fin : ∀ K, sf_wp (18 + 1) none 144 157 [some (.inr (.inl (some 409))), some (.inl a), some (.inl b), some (.inl N), some (.inl what), some (.inl (k : Int)), some (.inl fst), some (.inl 0), l8, l9] [.inl (sf_who a b k), .inl (x : Int), .inr (.inl (some 409))] (sf_E (sf_put X1 (sf_rf 409 28) 0 20 T)) K = sf_wp 19 none 144 164 [some (.inr (.inl (some 409))), some (.inl a), some (.inl b), some (.inl N), some (.inl what), some (.inl (k : Int)), some (.inl fst), some (.inl 0), l8, l9] [] (sf_E (sf_put X1 (sf_rf 409 28) 0 20 (sf_goes n g cold (sf_ru T 1 (T 1 - X (sf_rf 409 3) x)) (sf_ntx n T (sf_who a b k) x)))) K := fun K => by
      simp only [q144_157, sf_y]
      rw [s124']
      simp only [q144_160, q144_161, sf_y, Option.toList_some, Option.toList_none, List.cons_append, List.nil_append]
      rw [s125']
      rw [← nt1, sf_goes_d, e1, e2, e3]
      simp only [Option.toList_some, Option.toList_none, List.cons_append, List.nil_append]
    by_cases hev : k % 2 = 0
    · have w1 : sf_who a b k = a := if_pos hev
      rw [if_pos (by omega)]
      simp only [q144_152, q144_153]
      rw [w1] at fin ⊢
      exact fin K
    · have w1 : sf_who a b k = b := if_neg hev
      rw [if_neg (by omega)]
      simp only [q144_156]
      rw [w1] at fin ⊢
      exact fin K
  · rw [if_neg hx6] at nt1
    refine ⟨T 1, by omega, fun l7 l8 l9 K => ?_⟩
    rw [head]
    have s125' := fun K => s125 (d := 17) (V := X1) (S := T) (n := n) (t := sf_ntx n T (sf_who a b k) x) (K := K) e0 hn5 (by omega) nt1.symm (by rw [e1]; exact hg) (by rw [e2]; exact hc) hr.w (by omega)
    have eru : sf_ru T 1 (T 1) = T := by
      funext j
      unfold sf_ru
      by_cases q : j = 1
      · rw [if_pos q, q]
      · rw [if_neg q]
    simp only [q144_125, q144_126, q144_129, q144_131, q144_132, sf_y, y30, sf_y30, so30, sf_bd, b5, true_and, Int.toNat_natCast, e30]
    rw [q144_134, if_pos (by omega)]
    simp only [q144_160, q144_161, sf_y]
    rw [s125', e1, e2, eru]
    simp only [Option.toList_some, Option.toList_none, List.cons_append, List.nil_append]
end SFP47
