/-! for ever: what ranks tell -/
section SFP68a
variable {n L : Nat} {D : Nat → Nat} {I : Nat → Nat → Int} {H : Int} {lk pq : Nat → Int}
theorem sf_feVr_z {s : Nat → Int} {p : Nat} (hs : ∀ p, p < n → -1 ≤ s p) : sf_feVr s n p = 0 → s p = -1 := fun h => by
  unfold sf_feVr at h
  by_cases e : s p = -1
  · exact e
  · rw [if_neg e] at h
    omega
theorem sf_feVr_n {s : Nat → Int} {p : Nat} (hs : ∀ p, p < n → -1 ≤ s p) (h : s p = -1) : sf_feVr s n p = 0 := by
  unfold sf_feVr
  rw [if_pos h, sf_feC_zero n (fun k hk => by
    rw [decide_eq_true_eq]
    have := hs k hk
    omega)]
theorem sf_feVr_s {s : Nat → Int} {p : Nat} (h : ¬ s p = -1) : sf_feVr s n p = 1 + sf_feC (fun k => decide (¬ s k = -1 ∧ s k < s p)) n := by
  unfold sf_feVr
  rw [if_neg h]
theorem sf_feVr_iff {s : Nat → Int} (hs : ∀ p, p < n → -1 ≤ s p) {p q : Nat} (hp : p < n) (hq : q < n) : s p < s q ↔ sf_feVr s n p < sf_feVr s n q := by
  have h1 := hs p hp
  have h2 := hs q hq
  by_cases ep : s p = -1
  · rw [sf_feVr_n hs ep]
    by_cases eq : s q = -1
    · rw [sf_feVr_n hs eq]; omega
    · rw [sf_feVr_s eq]; omega
  · by_cases eq : s q = -1
    · rw [sf_feVr_n hs eq]; omega
    · rw [sf_feVr_s ep, sf_feVr_s eq]
      refine ⟨fun h => ?_, fun h => ?_⟩
      · have := sf_feC_lt (f := fun k => decide (¬ s k = -1 ∧ s k < s p)) (g := fun k => decide (¬ s k = -1 ∧ s k < s q)) (j := p) n (fun k _ e => by
          rw [decide_eq_true_eq] at e ⊢; omega) hp (by rw [decide_eq_true_eq]; omega) (by rw [decide_eq_true_eq]; omega)
        omega
      · by_cases g : s p < s q
        · exact g
        · have := sf_feC_le (f := fun k => decide (¬ s k = -1 ∧ s k < s q)) (g := fun k => decide (¬ s k = -1 ∧ s k < s p)) n (fun k _ e => by
            rw [decide_eq_true_eq] at e ⊢; omega)
          omega
theorem sf_feVr_congr {s u : Nat → Int} {p : Nat} (hp : p < n) (h : ∀ p, p < n → s p = u p) : sf_feVr s n p = sf_feVr u n p := by
  unfold sf_feVr
  rw [h p hp, sf_feC_congr n (fun k hk => by rw [h k hk])]
theorem sf_feB_iff (P : sf_fe n L D I H lk pq) {a b : Nat} : sf_feB n D I a b ↔ D a = D b ∧ ∀ p, p < n → sf_feVr (I a) n p = sf_feVr (I b) n p := by
  have ra : ∀ p, p < n → -1 ≤ I a p := fun p hp => (sf_fe_r P a p hp).1
  have rb : ∀ p, p < n → -1 ≤ I b p := fun p hp => (sf_fe_r P b p hp).1
  refine ⟨fun h => ⟨h.1.1, fun p hp => ?_⟩, fun h => ⟨⟨h.1, fun p q hp hq => ?_⟩, fun p hp => ?_⟩⟩
  · have hn := h.2 p hp
    by_cases e : I a p = -1
    · rw [sf_feVr_n ra e, sf_feVr_n rb (hn.mp e)]
    · rw [sf_feVr_s e, sf_feVr_s (fun z => e (hn.mpr z)), sf_feC_congr n (fun k hk => decide_eq_decide.mpr ?_)]
      have h1 := h.2 k hk
      have h2 := h.1.2 k p hk hp
      omega
  · rw [sf_feVr_iff ra hp hq, sf_feVr_iff rb hp hq, h.2 p hp, h.2 q hq]
  · have := h.2 p hp
    refine ⟨fun e => ?_, fun e => ?_⟩
    · rw [sf_feVr_n ra e] at this
      exact sf_feVr_z rb this.symm
    · rw [sf_feVr_n rb e] at this
      exact sf_feVr_z ra this
theorem sf_feA_iff (P : sf_fe n L D I H lk pq) {a b : Nat} : sf_feA n D I a b ↔ D a = D b ∧ ∀ p, p < n → sf_feR (I a) n p = sf_feR (I b) n p :=
  ⟨fun h => ⟨h.1, fun p hp => sf_feS_rk h.2 hp⟩, fun h => ⟨h.1, sf_feS_of h.2⟩⟩
end SFP68a
/-! the reference's row -/
def sf_feY (n L : Nat) (bo S : Nat → Int) (x : Nat) (T : Nat → Int) : Prop := (T 0 = (sf_feDar n L bo S x : Int)) ∧ (T 2 = S 2 + (x : Int)) ∧ (∀ p, p < n → T (p + 9) = sf_feSin n L bo S x p) ∧ (∀ e, e < 6 → T (e + 14) = S (e + 14)) ∧ (∀ p, p < 5 → 0 ≤ T (p + 4) ∧ T (p + 4) ≤ 99) ∧ (-(9 * (x : Int)) ≤ T 1 ∧ T 1 ≤ 9999)
theorem sf_feY.d {n L : Nat} {bo S : Nat → Int} {x : Nat} {T : Nat → Int} (h : sf_feY n L bo S x T) : T 0 = (sf_feDar n L bo S x : Int) := h.1
theorem sf_feY.t {n L : Nat} {bo S : Nat → Int} {x : Nat} {T : Nat → Int} (h : sf_feY n L bo S x T) : T 2 = S 2 + (x : Int) := h.2.1
theorem sf_feY.i {n L : Nat} {bo S : Nat → Int} {x : Nat} {T : Nat → Int} (h : sf_feY n L bo S x T) : ∀ p, p < n → T (p + 9) = sf_feSin n L bo S x p := h.2.2.1
theorem sf_feY.e {n L : Nat} {bo S : Nat → Int} {x : Nat} {T : Nat → Int} (h : sf_feY n L bo S x T) : ∀ e, e < 6 → T (e + 14) = S (e + 14) := h.2.2.2.1
theorem sf_feY.w {n L : Nat} {bo S : Nat → Int} {x : Nat} {T : Nat → Int} (h : sf_feY n L bo S x T) : ∀ p, p < 5 → 0 ≤ T (p + 4) ∧ T (p + 4) ≤ 99 := h.2.2.2.2.1
theorem sf_feY.l {n L : Nat} {bo S : Nat → Int} {x : Nat} {T : Nat → Int} (h : sf_feY n L bo S x T) : -(9 * (x : Int)) ≤ T 1 ∧ T 1 ≤ 9999 := h.2.2.2.2.2
theorem sf_feY.mk {n L : Nat} {bo S : Nat → Int} {x : Nat} {T : Nat → Int} (h0 : T 0 = (sf_feDar n L bo S x : Int)) (h1 : T 2 = S 2 + (x : Int)) (h2 : ∀ p, p < n → T (p + 9) = sf_feSin n L bo S x p) (h3 : ∀ e, e < 6 → T (e + 14) = S (e + 14)) (h4 : ∀ p, p < 5 → 0 ≤ T (p + 4) ∧ T (p + 4) ≤ 99) (h5 : -(9 * (x : Int)) ≤ T 1 ∧ T 1 ≤ 9999) : sf_feY n L bo S x T := ⟨h0, h1, h2, h3, h4, h5⟩
def sf_feFl (p : Nat) (T : Nat → Int) : Nat → Int := fun k => if 4 ≤ k ∧ k < 4 + p then 50 else T k
section SFP68b
variable {n L : Nat} {B : Int} {bo S T : Nat → Int}
theorem sf_feFl_s {p : Nat} : sf_ru (sf_feFl p T) (p + 4) 50 = sf_feFl (p + 1) T := by
  funext k
  unfold sf_ru sf_feFl
  by_cases e : k = p + 4
  · subst e
    rw [if_pos rfl, if_pos (by omega)]
  · rw [if_neg e]
    by_cases q : 4 ≤ k ∧ k < 4 + p
    · rw [if_pos q, if_pos (by omega)]
    · rw [if_neg q, if_neg (by omega)]
theorem sf_feFl_z : sf_feFl 0 T = T := by
  funext k
  unfold sf_feFl
  rw [if_neg (by omega)]
theorem sf_feFl_k {p k : Nat} (h : ¬ (4 ≤ k ∧ k < 4 + p)) : sf_feFl p T k = T k := if_neg h
theorem sf_feY_likes (Z : sf_feZ n L B bo S) {h : Nat} (Y : sf_feY n L bo S h T) {e : Nat} {q : Int} (he : bo (2 * (h % L)) = (e : Int)) (hq : bo (2 * (h % L) + 1) = q) : sf_likes n (sf_feFl n T) (sf_feFl n T (e + 14)) q = (sf_feDar n L bo S (h + 1) : Int) := by
  have n5 := Z.n5
  have hb := Z.b (h % L) (Nat.mod_lt _ Z.L0)
  have c := (sf_feg_fe Z).c h
  rw [he, hq, Int.toNat_natCast] at c
  rw [c, sf_feFl_k (by omega), Y.e e (by omega), sf_likes_ch (fun p hp => by unfold sf_feFl; rw [if_pos (by omega)]) (by rw [sf_feFl_k (by omega), Y.d]; omega)]
  rw [sf_feFl_k (by omega), Y.d, Int.toNat_natCast]
  unfold sf_ch
  rw [sf_least_congr n (fun j hj => show sf_feFl n T (j + 9) = sf_feSin n L bo S h j by rw [sf_feFl_k (by omega), Y.i j hj])]
theorem sf_feY_next (Z : sf_feZ n L B bo S) {h : Nat} (Y : sf_feY n L bo S h T) {g c x : Int} {cold : Nat → Int} (hg : 0 ≤ g ∧ g ≤ 20) (hcold : ∀ p, p < 5 → 0 ≤ cold p ∧ cold p ≤ 9) (hc : 0 ≤ c ∧ c ≤ 9) : sf_feY n L bo S (h + 1) (sf_goes n g cold (sf_ru (sf_ru (sf_feFl n T) 1 (sf_feFl n T 1 - c)) 0 x) (sf_feDar n L bo S (h + 1))) := by
  have n5 := Z.n5
  have hl := Y.l
  have ht := Y.t
  have P := sf_feg_fe Z
  have hd := P.d (h + 1)
  have k2 : ∀ k, 2 ≤ k → sf_ru (sf_ru (sf_feFl n T) 1 (sf_feFl n T 1 - c)) 0 x k = sf_feFl n T k := fun k hk => by rw [sf_ru_ne (by omega), sf_ru_ne (by omega)]
  refine sf_feY.mk ?_ ?_ (fun p hp => ?_) (fun e he => ?_) (fun p hp => ?_) ?_
  · rw [sf_goes_0]
  · rw [sf_goes_2, k2 2 (by omega), sf_feFl_k (by omega), ht]; omega
  · rw [sf_goes_9 n5, k2 2 (by omega), k2 (p + 9) (by omega), sf_feFl_k (by omega), sf_feFl_k (by omega), ht, Y.i p hp, P.i h p hp]
  · rw [sf_goes_14 n5 (by omega), k2 _ (by omega), sf_feFl_k (by omega), Y.e e he]
  · have hw := Y.w p hp
    by_cases q : p < n
    · rw [sf_goes_w q, k2 _ (by omega)]
      have hF : sf_feFl n T (p + 4) = 50 := by unfold sf_feFl; rw [if_pos (by omega)]
      have := hcold p hp
      rw [hF]
      split
      · split <;> omega
      · split <;> omega
    · rw [sf_goes_k (by omega), sf_turn_w hp, k2 _ (by omega), sf_feFl_k (by omega)]; exact hw
  · rw [sf_goes_1, sf_ru_ne (by omega), sf_ru_eq, sf_feFl_k (by omega)]
    omega
end SFP68b
/-! hours counted -/
def sf_feho (D : Nat → Nat) (L x k : Nat) (ho : Nat → Int) : Nat → Int := fun j => if 5 * x ≤ j ∧ j < 5 * x + 5 then (sf_feW D (L * x) k (j - 5 * x) : Int) else ho j
def sf_fehz (x p : Nat) (ho : Nat → Int) : Nat → Int := fun j => if 5 * x ≤ j ∧ j < 5 * x + p then 0 else ho j
section SFP68c
variable {D : Nat → Nat} {L x k : Nat} {ho : Nat → Int}
theorem sf_fehz_z : sf_fehz x 0 ho = ho := by
  funext j
  unfold sf_fehz
  rw [if_neg (by omega)]
theorem sf_fehz_s {p : Nat} : sf_ru (sf_fehz x p ho) (5 * x + p) 0 = sf_fehz x (p + 1) ho := by
  funext j
  unfold sf_ru sf_fehz
  by_cases e : j = 5 * x + p
  · subst e
    rw [if_pos rfl, if_pos (by omega)]
  · rw [if_neg e]
    by_cases q : 5 * x ≤ j ∧ j < 5 * x + p
    · rw [if_pos q, if_pos (by omega)]
    · rw [if_neg q, if_neg (by omega)]
theorem sf_feho_z : sf_fehz x 5 ho = sf_feho D L x 0 ho := rfl
theorem sf_feho_s (hd : D (L * x + k + 1) < 5) : sf_ru (sf_feho D L x k ho) (5 * x + D (L * x + k + 1)) (sf_feho D L x k ho (5 * x + D (L * x + k + 1)) + 1) = sf_feho D L x (k + 1) ho := by
  have eW : ∀ p, sf_feW D (L * x) (k + 1) p = sf_feW D (L * x) k p + (if decide (D (L * x + k + 1) = p) = true then 1 else 0) := fun p => rfl
  funext j
  unfold sf_ru sf_feho
  by_cases e : j = 5 * x + D (L * x + k + 1)
  · subst e
    rw [if_pos rfl, if_pos (by omega), if_pos (by omega), eW, if_pos (by rw [decide_eq_true_eq]; omega)]
    omega
  · rw [if_neg e]
    by_cases q : 5 * x ≤ j ∧ j < 5 * x + 5
    · rw [if_pos q, if_pos q, eW, if_neg (by rw [decide_eq_true_eq]; omega), Nat.add_zero]
    · rw [if_neg q, if_neg q]
theorem sf_feho_at {p : Nat} (hp : p < 5) : sf_feho D L x k ho (5 * x + p) = (sf_feW D (L * x) k p : Int) := by
  unfold sf_feho
  rw [if_pos (by omega), Nat.add_sub_cancel_left]
theorem sf_feho_off {j : Nat} (hj : j < 5 * x) : sf_feho D L x k ho j = ho j := by
  unfold sf_feho
  rw [if_neg (by omega)]
end SFP68c
