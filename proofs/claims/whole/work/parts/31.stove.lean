/-! Stove: a stove is a row of numbers: 0 darling, 1 logs, 2 hour, 4 + p warmth, 9 + p since, 14 + e law -/
theorem sf_cls_lt {a ci : Nat} (h : sf_cls a = ci) (hc : ci < 100) : a < 432 := by
  obtain ⟨fs, h1, -⟩ := sf_cls_obj h hc
  have := (List.getElem?_eq_some_iff.mp h1).1
  have e : sf_M0.length = 432 := by decide +kernel
  omega
theorem sf_stoveLen {s : Nat} (h : sf_cls s = 9) : sf_len (sf_rf (sf_rf s 0) 0) = 5 ∧ sf_len (sf_rf (sf_rf s 1) 0) = 5 ∧ sf_len (sf_rf (sf_rf s 2) 0) = 6 :=
  (show ∀ s, s < 432 → sf_cls s = 9 → sf_len (sf_rf (sf_rf s 0) 0) = 5 ∧ sf_len (sf_rf (sf_rf s 1) 0) = 5 ∧ sf_len (sf_rf (sf_rf s 2) 0) = 6 by decide +kernel) s (sf_cls_lt h (by omega)) h
theorem sf_homeLen {s : Nat} (h : sf_cls s = 2) : sf_len (sf_rf (sf_rf s 0) 0) = 5 ∧ sf_len (sf_rf (sf_rf s 1) 0) = 5 ∧ sf_len (sf_rf (sf_rf s 2) 0) = 6 ∧ sf_len (sf_rf (sf_rf s 3) 0) = 6 :=
  (show ∀ s, s < 432 → sf_cls s = 2 → sf_len (sf_rf (sf_rf s 0) 0) = 5 ∧ sf_len (sf_rf (sf_rf s 1) 0) = 5 ∧ sf_len (sf_rf (sf_rf s 2) 0) = 6 ∧ sf_len (sf_rf (sf_rf s 3) 0) = 6 by decide +kernel) s (sf_cls_lt h (by omega)) h
def sf_wa (s : Nat) : Nat := sf_rf (sf_rf s 0) 0
def sf_si (s : Nat) : Nat := sf_rf (sf_rf s 1) 0
def sf_la (s : Nat) : Nat := sf_rf (sf_rf s 2) 0
def sf_co (s : Nat) : Nat := sf_rf (sf_rf s 3) 0
def sf_getS (V : sf_MV) (s : Nat) : Nat → Int := fun k =>
  if k < 3 then V s (k + 3) else if k < 4 then 0 else if k < 9 then V (sf_wa s) (k - 4) else if k < 14 then V (sf_si s) (k - 9) else if k < 20 then V (sf_la s) (k - 14) else 0
def sf_setS (V : sf_MV) (s : Nat) (S : Nat → Int) : sf_MV := fun a k =>
  if a = s ∧ 3 ≤ k ∧ k < 6 then S (k - 3) else if a = sf_wa s ∧ k < 5 then S (k + 4) else if a = sf_si s ∧ k < 5 then S (k + 9) else if a = sf_la s ∧ k < 6 then S (k + 14) else V a k
/-- places of one stove are apart, and apart from those of another -/
theorem sf_apart1 (s : Nat) : s ≠ sf_wa s ∧ s ≠ sf_si s ∧ s ≠ sf_la s ∧ sf_wa s ≠ sf_si s ∧ sf_wa s ≠ sf_la s ∧ sf_si s ≠ sf_la s := by
  simp [sf_wa, sf_si, sf_la, sf_rf_inj, sf_self2_rf]
theorem sf_apart2 {s t : Nat} (h : s ≠ t) : sf_wa s ≠ sf_wa t ∧ sf_wa s ≠ sf_si t ∧ sf_wa s ≠ sf_la t ∧ sf_si s ≠ sf_wa t ∧ sf_si s ≠ sf_si t ∧ sf_si s ≠ sf_la t ∧ sf_la s ≠ sf_wa t ∧ sf_la s ≠ sf_si t ∧ sf_la s ≠ sf_la t := by
  simp [sf_wa, sf_si, sf_la, sf_rf_inj, h]
/-- an object is no array -/
theorem sf_apart3 {s t : Nat} (hs : sf_cls s = 9) (ht : sf_cls t < 100) : t ≠ sf_wa s ∧ t ≠ sf_si s ∧ t ≠ sf_la s := by
  have h0 := sf_c7_0 (sf_c9_0 hs)
  have h1 := sf_c7_0 (sf_c9_1 hs)
  have h2 := sf_c7_0 (sf_c9_2 hs)
  refine ⟨fun e => ?_, fun e => ?_, fun e => ?_⟩ <;> subst e <;> simp only [sf_wa, sf_si, sf_la] at ht <;> omega
theorem sf_put_ne {V : sf_MV} {a b k n : Nat} {f : Nat → Int} (h : ¬ b = a) : sf_put V a k n f b = V b := by
  funext j
  unfold sf_put
  rw [if_neg (fun z => h z.1)]
theorem sf_upd_ne {V : sf_MV} {a b k : Nat} {v : Int} (h : ¬ b = a) : sf_upd V a k v b = V b := by
  funext j
  unfold sf_upd
  rw [if_neg (fun z => h z.1)]
theorem sf_upd_ne2 {V : sf_MV} {a b k j : Nat} {v : Int} (h : ¬ j = k) : sf_upd V a k v b j = V b j := by
  unfold sf_upd
  rw [if_neg (fun z => h z.2)]
theorem sf_upd_eq {V : sf_MV} {a k : Nat} {v : Int} : sf_upd V a k v a k = v := by
  unfold sf_upd
  rw [if_pos ⟨rfl, rfl⟩]
theorem sf_setS_nest {V : sf_MV} {s : Nat} {x y z : Int} {w i r S : Nat → Int} (h0 : S 0 = x) (h1 : S 1 = y) (h2 : S 2 = z) (hw : ∀ k, k < 5 → S (k + 4) = w k) (hi : ∀ k, k < 5 → S (k + 9) = i k) (hr : ∀ k, k < 6 → S (k + 14) = r k) :
    sf_upd (sf_upd (sf_upd (sf_put (sf_put (sf_put V (sf_wa s) 0 5 w) (sf_si s) 0 5 i) (sf_la s) 0 6 r) s 3 x) s 4 y) s 5 z = sf_setS V s S := by
  obtain ⟨a1, a2, a3, a4, a5, a6⟩ := sf_apart1 s
  funext a k
  unfold sf_setS
  by_cases e1 : a = s
  · subst e1
    by_cases k5 : k = 5
    · subst k5; simp [sf_upd, h2]
    by_cases k4 : k = 4
    · subst k4; simp [sf_upd, h1]
    by_cases k3 : k = 3
    · subst k3; simp [sf_upd, h0]
    rw [sf_upd_ne2 k5, sf_upd_ne2 k4, sf_upd_ne2 k3, sf_put_ne a3, sf_put_ne a2, sf_put_ne a1]
    have : ¬ (3 ≤ k ∧ k < 6) := by omega
    simp [this, a1, a2, a3]
  rw [sf_upd_ne e1, sf_upd_ne e1, sf_upd_ne e1]
  by_cases e2 : a = sf_wa s
  · subst e2
    rw [sf_put_ne a5, sf_put_ne a4]
    by_cases hk : k < 5
    · simp [sf_put, hk, hw, e1, Ne.symm a1]
    · simp [sf_put, hk, e1, a4, a5]
  by_cases e3 : a = sf_si s
  · subst e3
    rw [sf_put_ne a6]
    by_cases hk : k < 5
    · simp [sf_put, hk, hi, e1, e2]
    · simp [sf_put, hk, e1, e2, a6]
  by_cases e4 : a = sf_la s
  · subst e4
    by_cases hk : k < 6
    · simp [sf_put, hk, hr, e1, e2, e3]
    · simp [sf_put, hk, e1, e2, e3]
  rw [sf_put_ne e4, sf_put_ne e3, sf_put_ne e2]
  simp [e1, e2, e3, e4]
theorem s39 {d s o : Nat} {V : sf_MV} {K : Option sf_V → sf_M → Prop} (h : sf_cls s = 9) (ho : sf_cls o = 9) (hne : s ≠ o) : sf_wp (d + 1) none 39 0 [some (.inr (.inl (some s))), some (.inr (.inl (some o)))] [] (sf_E V) K = K none (sf_E (sf_setS V s (sf_getS V o))) := by
  obtain ⟨l1, l2, l3⟩ := sf_stoveLen h
  obtain ⟨m1, m2, m3⟩ := sf_stoveLen ho
  have c0 := sf_c9_0 h
  have c1 := sf_c9_1 h
  have c2 := sf_c9_2 h
  have e0 := sf_c9_0 ho
  have e1 := sf_c9_1 ho
  have e2 := sf_c9_2 ho
  simp only [q39_0, q39_1, q39_4, q39_5, q39_8, q39_11, q39_12, q39_15, q39_16, q39_19, q39_22, q39_23, q39_26, q39_27, q39_30, q39_33, q39_34, q39_35, q39_38, q39_41, q39_42, q39_43, q39_46, q39_49, q39_50, q39_51, q39_54, q39_57, h, ho, c0, c1, c2, e0, e1, e2, s34, l1, l2, l3, m1, m2, m3, ne_eq, sf_rf_inj, hne, false_and, not_false_eq_true, Option.toList_some, Option.toList_none, List.cons_append, List.nil_append]
  refine congrArg (fun Z => K none (sf_E Z)) ?_
  have n0 : ¬ o = s := fun e => hne e.symm
  have a3 := sf_apart3 h (t := o) (by omega)
  simp only [sf_wa, sf_si, sf_la] at a3
  simp (decide := true) only [sf_put_ne, sf_upd_ne, n0, hne, a3, sf_rf_inj, false_and, and_false, not_false_eq_true]
  exact sf_setS_nest rfl rfl rfl (fun k hk => by simp [sf_getS, sf_wa, show k < 5 from hk]; omega) (fun k hk => by simp [sf_getS, sf_si]; omega) (fun k hk => by simp [sf_getS, sf_la]; omega)
