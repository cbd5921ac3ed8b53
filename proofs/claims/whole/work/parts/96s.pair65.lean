/-! for ever: the hours as rows -/
def sf_feg (n L : Nat) (bo S : Nat → Int) : Nat → Nat → Int
  | 0 => S
  | h + 1 => sf_turn (sf_feg n L bo S h) (sf_likes n (sf_feg n L bo S h) (sf_feg n L bo S h ((bo (2 * (h % L))).toNat + 14)) (bo (2 * (h % L) + 1))).toNat
def sf_feDar (n L : Nat) (bo S : Nat → Int) (h : Nat) : Nat := (sf_feg n L bo S h 0).toNat
def sf_feSin (n L : Nat) (bo S : Nat → Int) (h p : Nat) : Int := sf_feg n L bo S h (p + 9)
def sf_feZ (n L : Nat) (B : Int) (bo S : Nat → Int) : Prop := (sf_rok n B S) ∧ (0 < n) ∧ (n ≤ 5) ∧ (0 < L) ∧ (∀ p, p < 5 → S (p + 4) = 50) ∧ (∀ j, j < L → (0 ≤ bo (2 * j) ∧ bo (2 * j) < 6) ∧ (0 ≤ bo (2 * j + 1) ∧ bo (2 * j + 1) < n))
theorem sf_feZ.k {n L : Nat} {B : Int} {bo S : Nat → Int} (h : sf_feZ n L B bo S) : sf_rok n B S := h.1
theorem sf_feZ.n0 {n L : Nat} {B : Int} {bo S : Nat → Int} (h : sf_feZ n L B bo S) : 0 < n := h.2.1
theorem sf_feZ.n5 {n L : Nat} {B : Int} {bo S : Nat → Int} (h : sf_feZ n L B bo S) : n ≤ 5 := h.2.2.1
theorem sf_feZ.L0 {n L : Nat} {B : Int} {bo S : Nat → Int} (h : sf_feZ n L B bo S) : 0 < L := h.2.2.2.1
theorem sf_feZ.w {n L : Nat} {B : Int} {bo S : Nat → Int} (h : sf_feZ n L B bo S) : ∀ p, p < 5 → S (p + 4) = 50 := h.2.2.2.2.1
theorem sf_feZ.b {n L : Nat} {B : Int} {bo S : Nat → Int} (h : sf_feZ n L B bo S) : ∀ j, j < L → (0 ≤ bo (2 * j) ∧ bo (2 * j) < 6) ∧ (0 ≤ bo (2 * j + 1) ∧ bo (2 * j + 1) < n) := h.2.2.2.2.2
theorem sf_feZ.mk {n L : Nat} {B : Int} {bo S : Nat → Int} (h0 : sf_rok n B S) (h1 : 0 < n) (h2 : n ≤ 5) (h3 : 0 < L) (h4 : ∀ p, p < 5 → S (p + 4) = 50) (h5 : ∀ j, j < L → (0 ≤ bo (2 * j) ∧ bo (2 * j) < 6) ∧ (0 ≤ bo (2 * j + 1) ∧ bo (2 * j + 1) < n)) : sf_feZ n L B bo S := ⟨h0, h1, h2, h3, h4, h5⟩
section SFP65
variable {n L : Nat} {B : Int} {bo S : Nat → Int}
theorem sf_turn_0 {t : Nat} : sf_turn S t 0 = (t : Int) := by
  unfold sf_turn
  rw [sf_ru_ne (by omega), sf_ru_ne (by omega), sf_ru_eq]
theorem sf_turn_2 {t : Nat} : sf_turn S t 2 = S 2 + 1 := by
  unfold sf_turn
  rw [sf_ru_eq]
theorem sf_turn_9 {t p : Nat} : sf_turn S t (p + 9) = if p = t then S 2 else S (p + 9) := by
  unfold sf_turn
  rw [sf_ru_ne (by omega)]
  by_cases h : p = t
  · subst h
    rw [sf_ru_eq, if_pos rfl]
  · rw [sf_ru_ne (by omega), sf_ru_ne (by omega), if_neg h]
theorem sf_turn_14 {t e : Nat} (ht : t < 5) : sf_turn S t (e + 14) = S (e + 14) := by
  unfold sf_turn
  rw [sf_ru_ne (by omega), sf_ru_ne (by omega), sf_ru_ne (by omega)]
theorem sf_least_const {f : Nat → Int} {c : Int} : ∀ m, (∀ j, j < m → f j = c) → sf_least f m = 0 := by
  intro m
  induction m with
  | zero => intro _; rfl
  | succ m ih =>
    intro h
    unfold sf_least
    by_cases e : m = 0
    · rw [if_pos e]
    · rw [if_neg e, ih (fun j hj => h j (by omega)), h m (by omega), h 0 (by omega), if_neg (by omega)]
theorem sf_likes_ch {k p : Int} (hw : ∀ p, p < n → S (p + 4) = 50) (hd : 0 ≤ S 0) : sf_likes n S k p = sf_ch n k p (S 0).toNat (fun j => S (j + 9)) := by
  unfold sf_likes sf_ch
  rw [sf_least_const n (fun j hj => hw j hj), Int.toNat_of_nonneg hd]
  rfl
theorem sf_feg_ok (Z : sf_feZ n L B bo S) : ∀ h, (0 ≤ sf_feg n L bo S h 0 ∧ sf_feg n L bo S h 0 < n) ∧ sf_feg n L bo S h 2 = S 2 + (h : Int) ∧ (∀ p, p < 5 → sf_feg n L bo S h (p + 4) = 50) ∧ ∀ e, e < 6 → sf_feg n L bo S h (e + 14) = S (e + 14) := by
  intro h
  have n0 := Z.n0
  have n5 := Z.n5
  induction h with
  | zero =>
    have := Z.k.d
    refine ⟨?_, ?_, Z.w, fun e _ => rfl⟩
    · show 0 ≤ S 0 ∧ S 0 < n; omega
    · show S 2 = S 2 + ((0 : Nat) : Int); omega
  | succ h ih =>
    obtain ⟨i1, i2, i3, i4⟩ := ih
    have hb := Z.b (h % L) (Nat.mod_lt _ Z.L0)
    obtain ⟨t, ht, ht5⟩ := sf_likes_in (n := n) (S := sf_feg n L bo S h) (k := sf_feg n L bo S h ((bo (2 * (h % L))).toNat + 14)) (p := bo (2 * (h % L) + 1)) n0 hb.2 i1
    have e : sf_feg n L bo S (h + 1) = sf_turn (sf_feg n L bo S h) t := by
      show sf_turn _ _ = _
      rw [ht, Int.toNat_natCast]
    rw [e]
    refine ⟨?_, ?_, fun p hp => ?_, fun e he => ?_⟩
    · rw [sf_turn_0]; omega
    · rw [sf_turn_2, i2]; omega
    · rw [sf_turn_w hp]; exact i3 p hp
    · rw [sf_turn_14 (by omega)]; exact i4 e he
/-- the next darling of the class's row -/
theorem sf_feg_next (Z : sf_feZ n L B bo S) (h : Nat) : sf_likes n (sf_feg n L bo S h) (sf_feg n L bo S h ((bo (2 * (h % L))).toNat + 14)) (bo (2 * (h % L) + 1)) = (sf_feDar n L bo S (h + 1) : Int) ∧ sf_feg n L bo S (h + 1) = sf_turn (sf_feg n L bo S h) (sf_feDar n L bo S (h + 1)) ∧ sf_feDar n L bo S (h + 1) < n := by
  obtain ⟨i1, i2, i3, i4⟩ := sf_feg_ok Z h
  have hb := Z.b (h % L) (Nat.mod_lt _ Z.L0)
  obtain ⟨t, ht, ht5⟩ := sf_likes_in (n := n) (S := sf_feg n L bo S h) (k := sf_feg n L bo S h ((bo (2 * (h % L))).toNat + 14)) (p := bo (2 * (h % L) + 1)) Z.n0 hb.2 i1
  have e : sf_feg n L bo S (h + 1) = sf_turn (sf_feg n L bo S h) t := by
    show sf_turn _ _ = _
    rw [ht, Int.toNat_natCast]
  have e2 : sf_feDar n L bo S (h + 1) = t := by
    unfold sf_feDar
    rw [e, sf_turn_0, Int.toNat_natCast]
  rw [e2]
  exact ⟨ht, e, ht5⟩
theorem sf_feg_0 (Z : sf_feZ n L B bo S) (h : Nat) : sf_feg n L bo S h 0 = (sf_feDar n L bo S h : Int) := by
  have := (sf_feg_ok Z h).1
  unfold sf_feDar
  omega
theorem sf_feg_fe (Z : sf_feZ n L B bo S) : sf_fe n L (sf_feDar n L bo S) (sf_feSin n L bo S) (S 2) (fun j => S ((bo (2 * j)).toNat + 14)) (fun j => bo (2 * j + 1)) := by
  have k := Z.k
  have kd := k.d
  have n0 := Z.n0
  refine sf_fe.mk Z.n0 Z.n5 Z.L0 k.h.1 (fun h => ?_) (fun h p hp => ?_) k.i k.a ?_ (fun h => ?_) (fun j hj => ?_) (fun j hj => (Z.b j hj).2)
  · have := (sf_feg_ok Z h).1
    unfold sf_feDar
    omega
  · obtain ⟨e1, e2, e3⟩ := sf_feg_next Z h
    have := (sf_feg_ok Z h).2.1
    show sf_feg n L bo S (h + 1) (p + 9) = if p = sf_feDar n L bo S (h + 1) then S 2 + (h : Int) else sf_feg n L bo S h (p + 9)
    rw [e2, sf_turn_9, this]
  · exact k.m
  · obtain ⟨e1, e2, e3⟩ := sf_feg_next Z h
    obtain ⟨i1, i2, i3, i4⟩ := sf_feg_ok Z h
    have hb := Z.b (h % L) (Nat.mod_lt _ Z.L0)
    rw [← e1, i4 _ (by omega)]
    exact sf_likes_ch (fun p hp => i3 p (by have := Z.n5; omega)) i1.1
  · have hb := Z.b j hj
    exact k.r _ (by omega)
end SFP65
/-! goRound -/
def sf_dak (D : Nat → Nat) (da : Nat → Int) (h : Nat) : Nat → Int := fun k => if k < h then (D (k + 1) : Int) else da k
section SFP65b
variable {V : sf_MV} {n nx c ce cf cg : Nat} {S sa da : Nat → Int} {h l p B : Int} {K : Option sf_V → sf_M → Prop}
theorem sf_dak_s {D : Nat → Nat} {h : Nat} : sf_ru (sf_dak D da h) h (D (h + 1) : Int) = sf_dak D da (h + 1) := by
  funext k
  unfold sf_ru sf_dak
  by_cases e : k = h
  · subst e
    rw [if_pos rfl, if_pos (by omega)]
  · rw [if_neg e]
    by_cases q : k < h
    · rw [if_pos q, if_pos (by omega)]
    · rw [if_neg q, if_neg (by omega)]
theorem s40r {d e : Nat} {q : Int} (he : e < 6) (hn : n ≤ 5) (hp : -9 ≤ q ∧ q ≤ 9) (hd : -9 ≤ S 0 ∧ S 0 ≤ 9) :
    sf_wp (d + 2) none 40 0 [some (.inr (.inl (some (sf_rf (sf_rf 0 12) 0)))), some (.inl (e : Int)), some (.inl q), some (.inl (n : Int)), none] [] (sf_E (sf_mr V S sa da h l p)) K = K (some (.inl (sf_likes n S (S (e + 14)) q))) (sf_E (sf_mr V S sa da h l p)) :=
  s40 (V := sf_mrb V sa da h l p) sf_st9 he hn hp hd
theorem s45r {d t : Nat} (ht : t < 5) (hh : -1000 ≤ S 2 ∧ S 2 ≤ 100000) :
    sf_wp (d + 1) none 45 0 [some (.inr (.inl (some (sf_rf (sf_rf 0 12) 0)))), some (.inl (t : Int))] [] (sf_E (sf_mr V S sa da h l p)) K = K none (sf_E (sf_mr V (sf_turn S t) sa da h l p)) :=
  s45 (V := sf_mrb V sa da h l p) sf_st9 ht hh
theorem sf_mr_bk : sf_mr V S sa da h l p (sf_rf 0 9) = V (sf_rf 0 9) ∧ sf_mr V S sa da h l p (sf_rf (sf_rf (sf_rf 0 9) 0) 0) = V (sf_rf (sf_rf (sf_rf 0 9) 0) 0) ∧ sf_mr V S sa da h l p (sf_rf (sf_rf (sf_rf 0 9) 1) 0) = V (sf_rf (sf_rf (sf_rf 0 9) 1) 0) := by
  refine ⟨sf_mr_ne ?_ ?_ ?_ ?_ ?_ ?_ ?_, sf_mr_ne ?_ ?_ ?_ ?_ ?_ ?_ ?_, sf_mr_ne ?_ ?_ ?_ ?_ ?_ ?_ ?_⟩ <;> simp (decide := true) [sf_rf_inj, sf_0ne_rf, sf_rf_ne0]
theorem s25_loop {d x : Nat} (R : sf_RR V n nx c ce cf cg) (Z : sf_feZ n cf B (V (sf_rf 409 11)) S) (hB : B ≤ 90099) (hx : x < 100) : ∀ m k, cf - k = m → k ≤ cf →
    sf_wp (d + 3) none 25 2 [some (.inr (.inl (some (sf_rf 0 12)))), some (.inl (n : Int)), some (.inr (.inl (some (sf_rf 0 9)))), some (.inl (k : Int))] [] (sf_E (sf_mr V (sf_feg n cf (V (sf_rf 409 11)) S (cf * x + k)) sa (sf_dak (sf_feDar n cf (V (sf_rf 409 11)) S) da (cf * x + k)) ((cf * x + k : Nat) : Int) l p)) K
    = K none (sf_E (sf_mr V (sf_feg n cf (V (sf_rf 409 11)) S (cf * (x + 1))) sa (sf_dak (sf_feDar n cf (V (sf_rf 409 11)) S) da (cf * (x + 1))) ((cf * (x + 1) : Nat) : Int) l p)) := by
  have hf := R.f
  have cf20 := hf.c20
  have n5 := Z.n5
  have x9 := sf_c11_9 sf_x
  have x12 := sf_c11_12 sf_x
  have b0 := sf_c0_0 x9
  have b1 := sf_c0_1 x9
  have z2 := sf_c6_2 x12
  have st9 := sf_st9
  have hcx : cf * x ≤ 20 * 99 := Nat.mul_le_mul cf20 (by omega)
  have hB2 := Z.k.h
  intro m
  induction m with
  | zero =>
    intro k hm hk
    have e : k = cf := by omega
    subst e
    have m9 := (sf_mr_bk (V := V) (S := sf_feg n k (V (sf_rf 409 11)) S (k * x + k)) (sa := sa) (da := sf_dak (sf_feDar n k (V (sf_rf 409 11)) S) da (k * x + k)) (h := ((k * x + k : Nat) : Int)) (l := l) (p := p)).1
    simp only [q25_2, q25_3, q25_4, q25_7, x9, m9, hf.x]
    rw [if_pos (by omega)]
    simp only [q25_75]
    rw [Nat.mul_succ]
  | succ m ih =>
    intro k hm hk
    obtain ⟨m9, m90, m91⟩ := sf_mr_bk (V := V) (S := sf_feg n cf (V (sf_rf 409 11)) S (cf * x + k)) (sa := sa) (da := sf_dak (sf_feDar n cf (V (sf_rf 409 11)) S) da (cf * x + k)) (h := ((cf * x + k : Nat) : Int)) (l := l) (p := p)
    have hb := Z.b k (by omega)
    have he := hf.e k (by omega)
    obtain ⟨bl0, bl1⟩ := sf_bkLen
    obtain ⟨e, hee⟩ : ∃ e : Nat, V (sf_rf 409 11) (2 * k) = (e : Int) := ⟨(V (sf_rf 409 11) (2 * k)).toNat, by omega⟩
    obtain ⟨q, hqq⟩ : ∃ q : Nat, V (sf_rf 409 11) (2 * k + 1) = (q : Int) := ⟨(V (sf_rf 409 11) (2 * k + 1)).toNat, by omega⟩
    have r0 : sf_rd (sf_mr V (sf_feg n cf (V (sf_rf 409 11)) S (cf * x + k)) sa (sf_dak (sf_feDar n cf (V (sf_rf 409 11)) S) da (cf * x + k)) ((cf * x + k : Nat) : Int) l p) (sf_rf (sf_rf (sf_rf 0 9) 0) 0) (k : Int) = (e : Int) := by
      rw [sf_rd_nat (by omega), m90, he.1, hee]
    have r1 : sf_rd (sf_mr V (sf_feg n cf (V (sf_rf 409 11)) S (cf * x + k)) sa (sf_dak (sf_feDar n cf (V (sf_rf 409 11)) S) da (cf * x + k)) ((cf * x + k : Nat) : Int) l p) (sf_rf (sf_rf (sf_rf 0 9) 1) 0) (k : Int) = (q : Int) := by
      rw [sf_rd_nat (by omega), m91, he.2, hqq]
    have hmod : (cf * x + k) % cf = k := by rw [Nat.mul_add_mod, Nat.mod_eq_of_lt (by omega)]
    obtain ⟨e1, e2, e3⟩ := sf_feg_next Z (cf * x + k)
    rw [hmod, hee, hqq, Int.toNat_natCast] at e1
    obtain ⟨i1, i2, i3, i4⟩ := sf_feg_ok Z (cf * x + k)
    have g0 := sf_feg_0 Z (cf * x + k + 1)
    simp only [q25_2, q25_3, q25_4, q25_7, q25_10, q25_11, q25_14, q25_15, q25_18, q25_19, q25_22, q25_23, q25_26, q25_27, q25_30, q25_31, q25_34, x9, x12, m9, hf.x, b0, b1, s31, r0, r1, Option.toList_some, Option.toList_none, List.cons_append, List.nil_append]
    rw [if_neg (by omega)]
    simp only [q25_35, st9, Option.toList_some, Option.toList_none, List.cons_append, List.nil_append]
    rw [s40r (by omega) n5 (by omega) (by omega), e1]
    simp only [q25_38, st9, Option.toList_some, Option.toList_none, List.cons_append, List.nil_append]
    rw [s45r (by omega) (by omega), ← e2]
    simp only [q25_41, q25_42, q25_45, q25_46, q25_49, q25_50, q25_53, x12, sf_mr_h, sf_mr_d, st9, g0, Option.toList_some, Option.toList_none, List.cons_append, List.nil_append]
    simp only [q25_56, z2, s32, Option.toList_some, Option.toList_none, List.cons_append, List.nil_append]
    rw [sf_mr_wd (by omega), sf_dak_s]
    simp only [q25_59, q25_60, q25_61, q25_64, q25_65, q25_66, q25_69, x12, sf_mr_h, sf_mr_uh]
    rw [q25_72, sf_wS (by omega), sf_wS (by omega)]
    exact ih (k + 1) (by omega) (by omega)
end SFP65b
