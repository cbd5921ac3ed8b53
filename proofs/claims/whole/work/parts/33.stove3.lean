/-! chosenBy, turnTo, warmOnly, live, frozen over rows -/
/-- whom it likes by a law, behind a doing of p -/
def sf_likes (n : Nat) (S : Nat → Int) (k p : Int) : Int := if k = 2 then (sf_least (fun j => S (j + 4)) n : Int) else if k = 3 then (sf_least (fun j => S (j + 9)) n : Int) else sf_pln k p (S 0) n
section SFT3
variable {V : sf_MV} {s : Nat} {S : Nat → Int} {K : Option sf_V → sf_M → Prop}
theorem sf_w_small {n : Int} (h : -1000000 ≤ n ∧ n ≤ 1000000) : sf_w n = n := sf_w_of ⟨by omega, by omega⟩
theorem s40 {d n : Nat} {e : Nat} {p : Int} (h : sf_cls s = 9) (he : e < 6) (hn : n ≤ 5) (hp : -9 ≤ p ∧ p ≤ 9) (hd : -9 ≤ S 0 ∧ S 0 ≤ 9) :
    sf_wp (d + 2) none 40 0 [some (.inr (.inl (some s))), some (.inl (e : Int)), some (.inl p), some (.inl (n : Int)), none] [] (sf_E (sf_setS V s S)) K = K (some (.inl (sf_likes n S (S (e + 14)) p))) (sf_E (sf_setS V s S)) := by
  obtain ⟨l1, l2, l3⟩ := sf_stoveLen h
  have c0 := sf_c9_0 h
  have c1 := sf_c9_1 h
  have c2 := sf_c9_2 h
  have r : sf_rd (sf_setS V s S) (sf_rf (sf_rf s 2) 0) (e : Int) = S (e + 14) := by
    rw [sf_rd_nat (by omega)]
    exact sf_setS_r he
  simp only [q40_0, q40_1, q40_4, q40_5, q40_8, q40_10, q40_12, q40_13, q40_16, q40_17, q40_20, q40_21, q40_24, q40_25, q40_27, q40_28, q40_31, q40_32, q40_35, q40_36, q40_39, q40_40, q40_42, q40_43, q40_44, q40_47, q40_48, q40_51, h, c0, c1, c2, s31, r, Option.toList_some, Option.toList_none, List.cons_append, List.nil_append]
  unfold sf_likes
  by_cases k2 : S (e + 14) = 2
  · rw [if_pos k2, if_pos k2, s42 c0 (by omega)]
    simp only [q40_24, Option.toList_some, Option.toList_none, List.cons_append, List.nil_append]
    rw [sf_least_congr n (fun j hj => show sf_setS V s S (sf_rf (sf_rf s 0) 0) j = S (j + 4) from sf_setS_w (by omega))]
  rw [if_neg k2, if_neg k2]
  by_cases k3 : S (e + 14) = 3
  · rw [if_pos k3, if_pos k3, s42 c1 (by omega)]
    simp only [q40_39, Option.toList_some, Option.toList_none, List.cons_append, List.nil_append]
    rw [sf_least_congr n (fun j hj => show sf_setS V s S (sf_rf (sf_rf s 1) 0) j = S (j + 9) from sf_setS_i (by omega))]
  rw [if_neg k3, if_neg k3, sf_setS_d, s41 hp hd ⟨by omega, by omega⟩]
  simp only [q40_51, Option.toList_some, Option.toList_none, List.cons_append, List.nil_append]
def sf_turn (S : Nat → Int) (t : Nat) : Nat → Int := sf_ru (sf_ru (sf_ru S 0 t) (t + 9) (S 2)) 2 (S 2 + 1)
theorem s45 {d t : Nat} (h : sf_cls s = 9) (ht : t < 5) (hh : -1000 ≤ S 2 ∧ S 2 ≤ 100000) :
    sf_wp (d + 1) none 45 0 [some (.inr (.inl (some s))), some (.inl (t : Int))] [] (sf_E (sf_setS V s S)) K = K none (sf_E (sf_setS V s (sf_turn S t))) := by
  obtain ⟨l1, l2, l3⟩ := sf_stoveLen h
  have c1 := sf_c9_1 h
  simp only [q45_0, q45_1, q45_2, q45_5, q45_6, q45_9, q45_10, q45_11, q45_14, q45_17, q45_18, q45_19, q45_22, q45_23, q45_24, q45_27, h, c1, s32, sf_setS_ud, sf_setS_h, Option.toList_some, Option.toList_none, List.cons_append, List.nil_append]
  have w1 : sf_wr (sf_setS V s (sf_ru S 0 t)) (sf_rf (sf_rf s 1) 0) (t : Int) (sf_ru S 0 t 2) = sf_setS V s (sf_ru (sf_ru S 0 t) (t + 9) (S 2)) := by
    unfold sf_wr
    rw [if_pos (by omega), Int.toNat_natCast]
    exact sf_setS_ui ht
  have e2 : sf_ru (sf_ru S 0 t) (t + 9) (S 2) 2 = S 2 := by
    unfold sf_ru
    rw [if_neg (by omega), if_neg (by omega)]
  rw [w1, sf_setS_uh, sf_setS_h, e2, sf_w_small (by omega)]
  rfl
/-- the first m persons' warmth of an hour in which t is the darling -/
def sf_goes (m : Nat) (gain : Int) (cold : Nat → Int) (S : Nat → Int) (t : Nat) : Nat → Int := fun k =>
  if 4 ≤ k ∧ k < 4 + m then (if k - 4 = t then (if S k + gain < 99 then S k + gain else 99) else (if 0 < S k - cold (k - 4) then S k - cold (k - 4) else 0)) else sf_turn S t k
theorem sf_goes_zero {gain : Int} {cold : Nat → Int} {t : Nat} : sf_goes 0 gain cold S t = sf_turn S t := by
  funext k
  unfold sf_goes
  rw [if_neg (by omega)]
theorem sf_setS_home {h j : Nat} (hs : sf_cls s = 9) (hh : sf_cls h = 2) (hj : sf_cls (sf_rf h j) = 7) : sf_setS V s S h = V h ∧ sf_setS V s S (sf_rf (sf_rf h j) 0) = V (sf_rf (sf_rf h j) 0) := by
  have hne : ¬ h = s := fun e => by subst e; omega
  have a3 := sf_apart3 hs (t := h) (by omega)
  refine ⟨sf_setS_ne hne a3.1 a3.2.1 a3.2.2, sf_setS_ne ?_ ?_ ?_ ?_⟩
  · intro e
    have h1 := sf_c7_0 hj
    rw [e] at h1
    omega
  · simp [sf_wa, sf_rf_inj, hne]
  · simp [sf_si, sf_rf_inj, hne]
  · simp [sf_la, sf_rf_inj, hne]
end SFT3
