/-! two memories in one; an hour -/
def sf_mix (X Y : sf_MV) : sf_MV := fun a => if a < 409 then X a else Y a
section SFP7
variable {V X Y : sf_MV} {n nx c ce cf cg a k m : Nat} {v : Int} {f : Nat → Int}
theorem sf_mix_lo (h : a < 409) : sf_mix X Y a = X a := if_pos h
theorem sf_mix_hi (h : ¬ a < 409) : sf_mix X Y a = Y a := if_neg h
theorem sf_mix_self : sf_mix V V = V := by
  funext a
  unfold sf_mix
  split <;> rfl
theorem sf_mix_l (h : ∀ a, a < 409 → X a = V a) : sf_mix X Y = sf_mix V Y := by
  funext a
  unfold sf_mix
  by_cases q : a < 409
  · rw [if_pos q, if_pos q, h a q]
  · rw [if_neg q, if_neg q]
theorem sf_mix_r (h : ∀ a, ¬ a < 409 → X a = V a) : sf_mix Y X = sf_mix Y V := by
  funext a
  unfold sf_mix
  by_cases q : a < 409
  · rw [if_pos q, if_pos q]
  · rw [if_neg q, if_neg q, h a q]
theorem sf_mix_mixl : sf_mix (sf_mix X Y) V = sf_mix X V := sf_mix_l (fun _ h => sf_mix_lo h)
theorem sf_mix_mixr : sf_mix V (sf_mix X Y) = sf_mix V Y := sf_mix_r (fun _ h => sf_mix_hi h)
theorem sf_mix_ul (h : a < 409) : sf_upd (sf_mix X Y) a k v = sf_mix (sf_upd X a k v) Y := by
  funext b j
  unfold sf_upd sf_mix
  by_cases q : b < 409
  · simp only [if_pos q]
  · rw [if_neg q, if_neg (fun z : b = a ∧ _ => q (z.1 ▸ h)), if_neg q]
theorem sf_mix_ur (h : ¬ a < 409) : sf_upd (sf_mix X Y) a k v = sf_mix X (sf_upd Y a k v) := by
  funext b j
  unfold sf_upd sf_mix
  by_cases q : b < 409
  · rw [if_pos q, if_neg (fun z : b = a ∧ _ => h (z.1 ▸ q)), if_pos q]
  · simp only [if_neg q]
theorem sf_mix_pr (h : ¬ a < 409) : sf_put (sf_mix X Y) a k m f = sf_mix X (sf_put Y a k m f) := by
  funext b j
  unfold sf_put sf_mix
  by_cases q : b < 409
  · rw [if_pos q, if_neg (fun z : b = a ∧ _ => h (z.1 ▸ q)), if_pos q]
  · simp only [if_neg q]
theorem sf_mix_pl (h : a < 409) : sf_put (sf_mix X Y) a k m f = sf_mix (sf_put X a k m f) Y := by
  funext b j
  unfold sf_put sf_mix
  by_cases q : b < 409
  · simp only [if_pos q]
  · rw [if_neg q, if_neg (fun z : b = a ∧ _ => q (z.1 ▸ h)), if_neg q]
/-- a stove of the class -/
def sf_lo (s : Nat) : Prop := s < 409 ∧ sf_rf (sf_rf s 0) 0 < 409 ∧ sf_rf (sf_rf s 1) 0 < 409 ∧ sf_rf (sf_rf s 2) 0 < 409
theorem sf_lo_now : sf_lo (sf_rf 0 2) := by unfold sf_lo; decide +kernel
theorem sf_lo_rg : ∀ i, i < 30 → sf_lo (sf_rg i) := by unfold sf_lo sf_rg; decide +kernel
theorem sf_lo_sh : ∀ i, i < 2 → sf_lo (sf_sh i) := by unfold sf_lo sf_sh; decide +kernel
theorem sf_mix_sl {s : Nat} {S : Nat → Int} (h : sf_lo s) : sf_setS (sf_mix X Y) s S = sf_mix (sf_setS X s S) Y := by
  obtain ⟨h0, h1, h2, h3⟩ := h
  funext b j
  unfold sf_setS sf_mix sf_wa sf_si sf_la
  by_cases q : b < 409
  · simp only [if_pos q]
  · rw [if_neg q, if_neg (fun z : b = s ∧ _ => q (z.1 ▸ h0)), if_neg (fun z : b = sf_rf (sf_rf s 0) 0 ∧ _ => q (z.1 ▸ h1)), if_neg (fun z : b = sf_rf (sf_rf s 1) 0 ∧ _ => q (z.1 ▸ h2)), if_neg (fun z : b = sf_rf (sf_rf s 2) 0 ∧ _ => q (z.1 ▸ h3)), if_neg q]
theorem sf_mix_gl {s : Nat} (h : sf_lo s) : sf_getS (sf_mix X Y) s = sf_getS X s :=
  sf_getS_congr (sf_mix_lo h.1) (sf_mix_lo h.2.1) (sf_mix_lo h.2.2.1) (sf_mix_lo h.2.2.2)
theorem sf_lo_all : 0 < 409 ∧ sf_rf 0 1 < 409 ∧ sf_rf 0 2 < 409 ∧ sf_rf 0 4 < 409 ∧ sf_rf (sf_rf (sf_rf 0 1) 1) 0 < 409 ∧ sf_rf (sf_rf (sf_rf 0 1) 2) 0 < 409 ∧ sf_rf (sf_rf (sf_rf 0 1) 0) 0 < 409 := by decide +kernel
theorem sf_hi_all : ∀ k, ¬ sf_rf 409 k < 409 := fun k => by
  have := sf_rf_gt 409 k
  omega
theorem sf_mix_sp {R : Nat → Int} (hnx : nx < 30) : sf_sp (sf_mix X Y) nx c R = sf_mix (sf_sp X nx c R) Y := by
  obtain ⟨l0, l1, l2, l4, _⟩ := sf_lo_all
  unfold sf_sp sf_pt
  rw [sf_mix_gl sf_lo_now, sf_mix_sl (sf_lo_rg nx hnx), sf_mix_ul l4, sf_mix_ul l4, sf_mix_sl sf_lo_now]
theorem sf_mix_kh : sf_kh (sf_mix X Y) = sf_mix X (sf_kh Y) := by
  have e : sf_mix X Y 409 = Y 409 := sf_mix_hi (by decide)
  unfold sf_kh
  rw [e, sf_mix_hi (sf_hi_all 5), sf_mix_hi (sf_hi_all 4)]
  by_cases h : Y 409 6 = 30
  · rw [if_pos h, if_pos h, sf_mix_pr (sf_hi_all 5), sf_mix_ur (by decide), sf_mix_pr (sf_hi_all 5), sf_mix_ur (by decide)]
  · rw [if_neg h, if_neg h, sf_mix_pr (sf_hi_all 5), sf_mix_ur (by decide)]
theorem sf_mix_mo {R : Nat → Int} : sf_mo (sf_mix X Y) R = sf_mix X (sf_mo Y R) := by
  unfold sf_mo
  rw [sf_mix_kh, sf_mix_pr (sf_hi_all 28), sf_mix_pr (sf_hi_all 4)]
theorem sf_sp_ne {R : Nat → Int} (h1 : ¬ a = sf_rf 0 2) (h2 : ¬ a = sf_rf (sf_rf (sf_rf 0 2) 0) 0) (h3 : ¬ a = sf_rf (sf_rf (sf_rf 0 2) 1) 0) (h4 : ¬ a = sf_rf (sf_rf (sf_rf 0 2) 2) 0) (h5 : ¬ a = sf_rf 0 4) (h6 : ¬ a = sf_rg nx) (h7 : ¬ a = sf_rf (sf_rf (sf_rg nx) 0) 0) (h8 : ¬ a = sf_rf (sf_rf (sf_rg nx) 1) 0) (h9 : ¬ a = sf_rf (sf_rf (sf_rg nx) 2) 0) : sf_sp V nx c R a = V a := by
  unfold sf_sp sf_pt
  rw [sf_setS_ne h1 h2 h3 h4, sf_upd_ne h5, sf_upd_ne h5, sf_setS_ne h6 h7 h8 h9]
theorem sf_kh_ne (h1 : ¬ a = 409) (h2 : ¬ a = sf_rf 409 5) : sf_kh V a = V a := by
  unfold sf_kh
  by_cases h : V 409 6 = 30
  · rw [if_pos h, sf_upd_ne h1, sf_put_ne h2, sf_upd_ne h1, sf_put_ne h2]
  · rw [if_neg h, sf_upd_ne h1, sf_put_ne h2]
theorem sf_mo_ne {R : Nat → Int} (h1 : ¬ a = 409) (h2 : ¬ a = sf_rf 409 5) (h3 : ¬ a = sf_rf 409 4) (h4 : ¬ a = sf_rf 409 28) : sf_mo V R a = V a := by
  unfold sf_mo
  rw [sf_put_ne h3, sf_put_ne h4, sf_kh_ne h1 h2]
theorem sf_mo_y {R : Nat → Int} (h : ¬ k = 6) : sf_mo V R 409 k = V 409 k := by
  unfold sf_mo
  rw [sf_put_ne (by simp [sf_Yne_rf]), sf_put_ne (by simp [sf_Yne_rf]), sf_kh_y h]
theorem sf_mo_now {R : Nat → Int} (h : k < 20) : sf_mo V R (sf_rf 409 4) k = R k := by
  unfold sf_mo
  exact sf_put_at h
theorem sf_getS_self {s : Nat} {R : Nat → Int} : ∀ k, k < 20 → k ≠ 3 → sf_getS (sf_setS V s R) s k = R k := fun _ h1 h2 => sf_getS_set h1 h2
theorem sf_getS_cp {s o : Nat} : sf_getS (sf_setS V s (sf_getS X o)) s = sf_getS X o := by
  funext k
  by_cases h1 : k < 20
  · by_cases h2 : k = 3
    · subst h2; rfl
    · exact sf_getS_set h1 h2
  · unfold sf_getS
    rw [if_neg (by omega), if_neg (by omega), if_neg (by omega), if_neg (by omega), if_neg (by omega)]
    rw [if_neg (by omega), if_neg (by omega), if_neg (by omega), if_neg (by omega), if_neg (by omega)]
theorem sf_req_c {S T S' T' : Nat → Int} (h : sf_req n S T) (hn : n ≤ 5) (h1 : ∀ k, k < 20 → k ≠ 3 → S' k = S k) (h2 : ∀ k, k < 20 → k ≠ 3 → T' k = T k) : sf_req n S' T' :=
  sf_req.mk (by rw [h1 _ (by omega) (by omega), h2 _ (by omega) (by omega)]; exact h.d) (by rw [h1 _ (by omega) (by omega), h2 _ (by omega) (by omega)]; exact h.l) (by rw [h1 _ (by omega) (by omega), h2 _ (by omega) (by omega)]; exact h.h) (fun p hp => by rw [h1 _ (by omega) (by omega), h2 _ (by omega) (by omega)]; exact h.w p hp) (fun p hp => by rw [h1 _ (by omega) (by omega), h2 _ (by omega) (by omega)]; exact h.i p hp) (fun p hp => by rw [h1 _ (by omega) (by omega), h2 _ (by omega) (by omega)]; exact h.r p hp)
theorem sf_rok_c {B : Int} {T U : Nat → Int} (h : sf_rok n B T) (hn : n ≤ 5) (hU : ∀ k, k < 20 → k ≠ 3 → U k = T k) : sf_rok n B U := by
  have h9 : ∀ p, p < n → U (p + 9) = T (p + 9) := fun p hp => hU _ (by omega) (by omega)
  have h0 := hU 0 (by omega) (by omega)
  have h1 := hU 1 (by omega) (by omega)
  have h2 := hU 2 (by omega) (by omega)
  refine sf_rok.mk ?_ ?_ ?_ ?_ ?_ ?_ ?_ ?_
  · rw [h0]; exact h.d
  · rw [h1]; exact h.l
  · rw [h2]; exact h.h
  · intro p hp; rw [hU _ (by omega) (by omega)]; exact h.w p hp
  · intro p hp; rw [h9 p hp, h2]; exact h.i p hp
  · intro p hp q hq; rw [h9 p hp, h9 q hq]; exact h.a p hp q hq
  · rcases h.m with m | m
    · exact Or.inl (fun p hp => by rw [h9 p hp]; exact m p hp)
    · refine Or.inr (fun p hp => ?_)
      have hd := h.d
      rw [h0, h9 p hp, h9 _ (by omega)]
      exact m p hp
  · intro e he; rw [hU _ (by omega) (by omega)]; exact h.r e he
theorem sf_goes_k {gain : Int} {cold S : Nat → Int} {t : Nat} (h : ¬ (4 ≤ k ∧ k < 4 + m)) : sf_goes m gain cold S t k = sf_turn S t k := if_neg h
theorem sf_goes_w {p t : Nat} {gain : Int} {cold S : Nat → Int} (h : p < m) : sf_goes m gain cold S t (p + 4) = (if p = t then (if S (p + 4) + gain < 99 then S (p + 4) + gain else 99) else (if 0 < S (p + 4) - cold p then S (p + 4) - cold p else 0)) := by
  unfold sf_goes
  rw [if_pos (by omega), Nat.add_sub_cancel]
theorem sf_goes_9 {p t : Nat} {gain : Int} {cold S : Nat → Int} (hm : m ≤ 5) : sf_goes m gain cold S t (p + 9) = if p = t then S 2 else S (p + 9) := by
  rw [sf_goes_k (by omega)]
  unfold sf_turn
  rw [sf_ru_ne (by omega)]
  by_cases h : p = t
  · subst h
    rw [sf_ru_eq, if_pos rfl]
  · rw [sf_ru_ne (by omega), sf_ru_ne (by omega), if_neg h]
theorem sf_goes_14 {p t : Nat} {gain : Int} {cold S : Nat → Int} (hm : m ≤ 5) (ht : t < 5) : sf_goes m gain cold S t (p + 14) = S (p + 14) := by
  rw [sf_goes_k (by omega)]
  unfold sf_turn
  rw [sf_ru_ne (by omega), sf_ru_ne (by omega), sf_ru_ne (by omega)]
theorem sf_goes_0 {t : Nat} {gain : Int} {cold S : Nat → Int} : sf_goes m gain cold S t 0 = (t : Int) := by
  rw [sf_goes_k (by omega)]
  unfold sf_turn
  rw [sf_ru_ne (by omega), sf_ru_ne (by omega), sf_ru_eq]
theorem sf_goes_1 {t : Nat} {gain : Int} {cold S : Nat → Int} : sf_goes m gain cold S t 1 = S 1 := by
  rw [sf_goes_k (by omega)]
  unfold sf_turn
  rw [sf_ru_ne (by omega), sf_ru_ne (by omega), sf_ru_ne (by omega)]
theorem sf_goes_2 {t : Nat} {gain : Int} {cold S : Nat → Int} : sf_goes m gain cold S t 2 = S 2 + 1 := by
  rw [sf_goes_k (by omega)]
  unfold sf_turn
  rw [sf_ru_eq]
theorem sf_req_goes {t : Nat} {gain : Int} {cold cold' S T : Nat → Int} (h : sf_req n S T) (hn : n ≤ 5) (ht : t < n) (hc : ∀ p, p < n → cold p = cold' p) : sf_req n (sf_goes n gain cold S t) (sf_goes n gain cold' T t) := by
  refine sf_req.mk ?_ ?_ ?_ ?_ ?_ ?_
  · rw [sf_goes_0, sf_goes_0]
  · rw [sf_goes_1, sf_goes_1]; exact h.l
  · rw [sf_goes_2, sf_goes_2, h.h]
  · intro p hp
    rw [sf_goes_w hp, sf_goes_w hp, h.w p hp, hc p hp]
  · intro p hp
    rw [sf_goes_9 hn, sf_goes_9 hn, h.i p hp, h.h]
  · intro e he
    rw [sf_goes_14 hn (by omega), sf_goes_14 hn (by omega), h.r e he]
theorem sf_rok_goes {t : Nat} {gain B : Int} {cold S : Nat → Int} (h : sf_rok n B S) (hn : n ≤ 5) (ht : t < n) (hg : 0 ≤ gain) (hc : ∀ p, p < n → 0 ≤ cold p) : sf_rok n (B + 1) (sf_goes n gain cold S t) := by
  refine sf_rok.mk ?_ ?_ ?_ ?_ ?_ ?_ ?_ ?_
  · rw [sf_goes_0]; omega
  · rw [sf_goes_1]; exact h.l
  · rw [sf_goes_2]
    have := h.h
    omega
  · intro p hp
    have := h.w p hp
    by_cases q : p < n
    · rw [sf_goes_w q]
      have := hc p q
      split
      · split <;> omega
      · split <;> omega
    · rw [sf_goes_k (by omega), sf_turn_w hp]; exact this
  · intro p hp
    have := h.i p hp
    have := h.h
    rw [sf_goes_9 hn, sf_goes_2]
    split <;> omega
  · intro p hp q hq
    have h1 := h.i p hp
    have h2 := h.i q hq
    have h3 := h.a p hp q hq
    have := h.h
    rw [sf_goes_9 hn, sf_goes_9 hn]
    split <;> split <;> omega
  · refine Or.inr (fun p hp => ?_)
    have h1 := h.i p hp
    rw [sf_goes_0, Int.toNat_natCast, sf_goes_9 hn, sf_goes_9 hn, if_pos rfl]
    split <;> omega
  · intro e he
    rw [sf_goes_14 hn (by omega)]
    exact h.r e he
end SFP7
