/-! left, doers -/
section SFP19
variable {V X Y : sf_MV} {n nx c ce cf cg a k m : Nat} {v : Int} {f : Nat → Int} {K : Option sf_V → sf_M → Prop}
theorem s40g {d e s : Nat} {p : Int} (h : sf_cls s = 9) (he : e < 6) (hn : n ≤ 5) (hp : -9 ≤ p ∧ p ≤ 9) (hd : -9 ≤ sf_getS V s 0 ∧ sf_getS V s 0 ≤ 9) :
    sf_wp (d + 2) none 40 0 [some (.inr (.inl (some s))), some (.inl (e : Int)), some (.inl p), some (.inl (n : Int)), none] [] (sf_E V) K = K (some (.inl (sf_likes n (sf_getS V s) (sf_getS V s (e + 14)) p))) (sf_E V) := by
  have h1 := s40 (V := V) (S := sf_getS V s) (K := K) (d := d) h he hn hp hd
  rw [sf_setS_get] at h1
  exact h1
section FOLD
variable {σ α : Type} (st : Nat → Nat → σ → σ) (n : Nat)
def sf_fi (e : Nat) : Nat → (σ → α) → σ → α
  | 0, G, s => G s
  | m + 1, G, s => sf_fi e m G (st e (n - (m + 1)) s)
def sf_fo : Nat → (σ → α) → σ → α
  | 0, G, s => G s
  | k + 1, G, s => sf_fi st n (6 - (k + 1)) n (sf_fo k G) s
theorem sf_fi_inv {P : σ → Prop} (hP : ∀ e p s, P s → P (st e p s)) {e : Nat} {r : α} : ∀ (m : Nat) (G : σ → α) (s : σ), (∀ s, P s → G s = r) → P s → sf_fi st n e m G s = r
  | 0, _, _, h, hs => h _ hs
  | m + 1, G, _, h, hs => sf_fi_inv hP m G _ h (hP _ _ _ hs)
theorem sf_fo_inv {P : σ → Prop} (hP : ∀ e p s, P s → P (st e p s)) {r : α} : ∀ (k : Nat) (G : σ → α) (s : σ), (∀ s, P s → G s = r) → P s → sf_fo st n k G s = r
  | 0, _, _, h, hs => h _ hs
  | k + 1, G, s, h, hs => sf_fi_inv st n hP n _ _ (fun s hs => sf_fo_inv hP k G s h hs) hs
end FOLD
def sf_lst (L : Nat → Nat → Int) (to which : Int) (e p : Nat) (s : Int × Int) : Int × Int := if L e p = to then (s.1 + 1, if s.1 = which then 10 * e + p else s.2) else s
def sf_lre (which : Int) (s : Int × Int) : Int := if which = -1 then s.1 else s.2
def sf_lik (n : Nat) (S : Nat → Int) (e p : Nat) : Int := sf_likes n S (S (e + 14)) p
/-- the class: left -/
theorem s78_in {to which : Int} {e : Nat} {G : Int × Int → Int} (hn : V (sf_rf 0 1) 4 = (n : Int)) (hn5 : n ≤ 5) (he : e < 6) (hd : 0 ≤ sf_getS V (sf_rf 0 2) 0 ∧ sf_getS V (sf_rf 0 2) 0 ≤ 9)
    (hG : ∀ s : Int × Int, which < s.1 → 0 ≤ which → G s = s.2)
    (hK : ∀ cnt : Int, 0 ≤ cnt → cnt ≤ 5 * (e + 1) → sf_wp 19 none 78 83 [some (.inr (.inl (some 0))), some (.inl to), some (.inl which), some (.inl cnt), some (.inl (e : Int)), some (.inl (n : Int))] [] (sf_E V) K = K (some (.inl (G (cnt, -1)))) (sf_E V)) :
    ∀ (m p : Nat) (cnt : Int), n - p = m → p ≤ n → 0 ≤ cnt → cnt ≤ 5 * e + p → sf_wp 19 none 78 26 [some (.inr (.inl (some 0))), some (.inl to), some (.inl which), some (.inl cnt), some (.inl (e : Int)), some (.inl (p : Int))] [] (sf_E V) K = K (some (.inl (sf_fi (sf_lst (sf_lik n (sf_getS V (sf_rf 0 2))) to which) n e m G (cnt, -1)))) (sf_E V) := by
  have c1 := sf_c11_1 sf_x
  have c2 := sf_c11_2 sf_x
  intro m
  induction m with
  | zero =>
    intro p cnt hm hp h0 h1
    simp only [q78_26, q78_28, q78_29, q78_32, q78_35, sf_x, c1, hn]
    rw [if_pos (by omega), show p = n by omega]
    exact hK cnt h0 (by omega)
  | succ m ih =>
    intro p cnt hm hp h0 h1
    have ep : n - (m + 1) = p := by omega
    unfold sf_fi
    rw [ep]
    simp only [q78_26, q78_28, q78_29, q78_32, q78_35, q78_38, q78_39, q78_42, q78_44, q78_46, q78_47, q78_50, q78_53, sf_x, c1, c2, hn, Option.toList_some, Option.toList_none, List.cons_append, List.nil_append]
    rw [if_neg (by omega), s40g (d := 16) c2 he hn5 (by omega) (by omega)]
    simp only [q78_56, q78_57, Option.toList_some, Option.toList_none, List.cons_append, List.nil_append]
    have el : sf_likes n (sf_getS V (sf_rf 0 2)) (sf_getS V (sf_rf 0 2) (e + 14)) (p : Int) = sf_lik n (sf_getS V (sf_rf 0 2)) e p := rfl
    rw [el]
    by_cases h : sf_lik n (sf_getS V (sf_rf 0 2)) e p = to
    · rw [if_pos h]
      simp only [q78_60, q78_61, q78_62]
      by_cases hw : cnt = which
      · rw [if_pos hw]
        simp only [q78_65, q78_67, q78_69, q78_70, q78_72, q78_73]
        have e1 : sf_lst (sf_lik n (sf_getS V (sf_rf 0 2))) to which e p (cnt, -1) = (cnt + 1, 10 * (e : Int) + p) := by
          unfold sf_lst
          rw [if_pos h, if_pos hw]
        rw [e1, sf_fi_inv (P := fun s : Int × Int => which < s.1 ∧ s.2 = 10 * (e : Int) + p) (r := 10 * (e : Int) + p) _ _ (fun e' p' s hs => by
          unfold sf_lst
          split
          · exact ⟨by show which < s.1 + 1; omega, by show (if s.1 = which then _ else s.2) = _; rw [if_neg (by omega)]; exact hs.2⟩
          · exact hs) m G _ (fun s hs => by rw [hG s hs.1 (by omega)]; exact hs.2) ⟨by show which < cnt + 1; omega, rfl⟩]
        rw [sf_w_small (n := 10 * (e : Int)) (by omega), sf_w_small (by omega)]
      · rw [if_neg hw]
        have e1 : sf_lst (sf_lik n (sf_getS V (sf_rf 0 2))) to which e p (cnt, -1) = (cnt + 1, -1) := by
          unfold sf_lst
          rw [if_pos h, if_neg hw]
        simp only [q78_74, q78_77]
        rw [q78_80, sf_wS (by omega), sf_w_small (by omega), ih (p + 1) (cnt + 1) (by omega) (by omega) (by omega) (by omega), e1]
    · rw [if_neg h]
      have e1 : sf_lst (sf_lik n (sf_getS V (sf_rf 0 2))) to which e p (cnt, -1) = (cnt, -1) := by
        unfold sf_lst
        rw [if_neg h]
      simp only [q78_77]
      rw [q78_80, sf_wS (by omega), ih (p + 1) cnt (by omega) (by omega) (by omega) (by omega), e1]
theorem sf_foG {L : Nat → Nat → Int} {to which : Int} : ∀ (k : Nat) (s : Int × Int), which < s.1 → 0 ≤ which → sf_fo (sf_lst L to which) n k (sf_lre which) s = s.2 := fun k s h1 h2 =>
  sf_fo_inv (P := fun z : Int × Int => which < z.1 ∧ z.2 = s.2) (r := s.2) _ _ (fun e' p' z hs => by
    unfold sf_lst
    split
    · exact ⟨by show which < z.1 + 1; omega, by show (if z.1 = which then _ else z.2) = _; rw [if_neg (by omega)]; exact hs.2⟩
    · exact hs) k (sf_lre which) s (fun z hz => by
      unfold sf_lre
      rw [if_neg (by omega)]
      exact hz.2) ⟨h1, rfl⟩
theorem s78_out {to which : Int} (hn : V (sf_rf 0 1) 4 = (n : Int)) (hn5 : n ≤ 5) (hd : 0 ≤ sf_getS V (sf_rf 0 2) 0 ∧ sf_getS V (sf_rf 0 2) 0 ≤ 9) :
    ∀ (k e : Nat) (cnt : Int) l, 6 - e = k → e ≤ 6 → 0 ≤ cnt → cnt ≤ 5 * e → sf_wp 19 none 78 16 [some (.inr (.inl (some 0))), some (.inl to), some (.inl which), some (.inl cnt), some (.inl (e : Int)), l] [] (sf_E V) K = K (some (.inl (sf_fo (sf_lst (sf_lik n (sf_getS V (sf_rf 0 2))) to which) n k (sf_lre which) (cnt, -1)))) (sf_E V) := by
  intro k
  induction k with
  | zero =>
    intro e cnt l hm hp h0 h1
    simp only [q78_16, q78_18, q78_20]
    rw [if_pos (by omega)]
    simp only [q78_89, q78_90, q78_91]
    unfold sf_fo sf_lre
    by_cases h : which = -1
    · rw [if_pos h, if_pos h]
      simp only [q78_94, q78_95, q78_99]
    · rw [if_neg h, if_neg h]
      simp only [q78_98, q78_99]
  | succ k ih =>
    intro e cnt l hm hp h0 h1
    simp only [q78_16, q78_18, q78_20, q78_23, q78_24]
    rw [if_neg (by omega)]
    have ek : 6 - (k + 1) = e := by omega
    unfold sf_fo
    rw [ek]
    exact s78_in (n := n) hn hn5 (by omega) hd (fun s h1 h2 => sf_foG k s h1 h2) (fun cnt q0 q1 => by
      simp only [q78_83]
      rw [q78_86, sf_wS (by omega)]
      exact ih (e + 1) cnt _ (by omega) (by omega) q0 (by omega)) n 0 cnt (by omega) (by omega) h0 (by omega)
end SFP19
