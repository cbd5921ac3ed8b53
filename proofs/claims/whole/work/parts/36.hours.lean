/-! spendHour, draw -/
section SFH
variable {V : sf_MV} {K : Option sf_V → sf_M → Prop}
/-- behind an hour of the class: the old stove in the ring, the new one -/
def sf_sp (V : sf_MV) (nx c : Nat) (R : Nat → Int) : sf_MV := sf_setS (sf_pt V nx c (sf_rf 0 2)) (sf_rf 0 2) R
theorem sf_pt_obj {nx c o a : Nat} (hnx : nx < 30) (ha : sf_cls a < 100) (h1 : ¬ a = sf_rg nx) (h2 : ¬ a = sf_rf 0 4) : sf_pt V nx c o a = V a := by
  unfold sf_pt
  rw [sf_upd_ne h2, sf_upd_ne h2, sf_setS_obj (sf_rgCls hnx) ha h1]
theorem sf_pt_arr {nx c o r : Nat} (hr : sf_cls r = 7) (h1 : ¬ r = sf_rf (sf_rg nx) 0) (h2 : ¬ r = sf_rf (sf_rg nx) 1) (h3 : ¬ r = sf_rf (sf_rg nx) 2) (hg : sf_cls (sf_rg nx) = 9) : sf_pt V nx c o (sf_rf r 0) = V (sf_rf r 0) := by
  have c7 := sf_c7_0 hr
  unfold sf_pt
  have q1 : ¬ sf_rf r 0 = sf_rf 0 4 := fun e => by
    have := sf_c11_4 sf_x
    rw [← e] at this
    omega
  have q2 : ¬ sf_rf r 0 = sf_rg nx := fun e => by rw [e] at c7; omega
  rw [sf_upd_ne q1, sf_upd_ne q1, sf_setS_ne q2]
  · simp only [sf_wa, ne_eq, sf_rf_inj, h1, false_and, not_false_eq_true]
  · simp only [sf_si, ne_eq, sf_rf_inj, h2, false_and, not_false_eq_true]
  · simp only [sf_la, ne_eq, sf_rf_inj, h3, false_and, not_false_eq_true]
theorem sf_pt_now {nx c : Nat} (hnx : nx < 30) : sf_getS (sf_pt V nx c (sf_rf 0 2)) (sf_rf 0 2) = sf_getS V (sf_rf 0 2) := by
  have cn := sf_c11_2 sf_x
  have e0 : sf_pt V nx c (sf_rf 0 2) (sf_rf 0 2) = V (sf_rf 0 2) := sf_pt_obj hnx (by omega) (fun e => sf_rg_ne e.symm) (by simp [sf_rf_inj])
  have hg := sf_rgCls hnx
  have n0 : ∀ j k, ¬ sf_rf (sf_rf 0 2) j = sf_rf (sf_rg nx) k := fun j k e => by
    rw [sf_rf_inj] at e
    exact sf_rg_ne e.1.symm
  have e1 : sf_pt V nx c (sf_rf 0 2) (sf_wa (sf_rf 0 2)) = V (sf_wa (sf_rf 0 2)) := sf_pt_arr (sf_c9_0 cn) (n0 _ _) (n0 _ _) (n0 _ _) hg
  have e2 : sf_pt V nx c (sf_rf 0 2) (sf_si (sf_rf 0 2)) = V (sf_si (sf_rf 0 2)) := sf_pt_arr (sf_c9_1 cn) (n0 _ _) (n0 _ _) (n0 _ _) hg
  have e3 : sf_pt V nx c (sf_rf 0 2) (sf_la (sf_rf 0 2)) = V (sf_la (sf_rf 0 2)) := sf_pt_arr (sf_c9_2 cn) (n0 _ _) (n0 _ _) (n0 _ _) hg
  funext k
  unfold sf_getS
  rw [e0, e1, e2, e3]
theorem sf_pt_home {nx c : Nat} (hnx : nx < 30) : sf_pt V nx c (sf_rf 0 2) (sf_rf 0 1) = V (sf_rf 0 1) := by
  have cn := sf_c11_1 sf_x
  exact sf_pt_obj hnx (by omega) (fun e => sf_rg_ne e.symm) (by simp [sf_rf_inj])
theorem sf_pt_hrow {nx c k : Nat} (hnx : nx < 30) (hk : sf_cls (sf_rf (sf_rf 0 1) k) = 7) : sf_pt V nx c (sf_rf 0 2) (sf_rf (sf_rf (sf_rf 0 1) k) 0) = V (sf_rf (sf_rf (sf_rf 0 1) k) 0) := by
  have hg := sf_rgCls hnx
  have n0 : ∀ j, ¬ sf_rf (sf_rf 0 1) k = sf_rf (sf_rg nx) j := fun j e => by
    rw [sf_rf_inj] at e
    exact sf_rg_ne e.1.symm
  exact sf_pt_arr hk (n0 _) (n0 _) (n0 _) hg
theorem s94n {d n t nx c : Nat} {p : Int} (h1 : V (sf_rf 0 4) 1 = (nx : Int)) (hnx : nx < 30) (h2 : V (sf_rf 0 4) 2 = (c : Int)) (hc : c ≤ 30) (hn : V (sf_rf 0 1) 4 = (n : Int)) (hn5 : n ≤ 5) (ht : t < 5) (hd : sf_getS V (sf_rf 0 2) 0 = (t : Int)) (hg : 0 ≤ V (sf_rf 0 1) 6 ∧ V (sf_rf 0 1) 6 ≤ 20) (hco : ∀ p, p < 5 → 0 ≤ V (sf_si (sf_rf 0 1)) p ∧ V (sf_si (sf_rf 0 1)) p ≤ 9) (hw : ∀ p, p < 5 → 0 ≤ sf_getS V (sf_rf 0 2) (p + 4) ∧ sf_getS V (sf_rf 0 2) (p + 4) ≤ 99) (hh : -1000 ≤ sf_getS V (sf_rf 0 2) 2 ∧ sf_getS V (sf_rf 0 2) 2 ≤ 100000) :
    sf_wp (d + 4) none 94 0 [some (.inr (.inl (some 0))), some (.inl (-1)), some (.inl p)] [] (sf_E V) K = K (some (.inl (t : Int))) (sf_E (sf_sp V nx c (sf_goes n (V (sf_rf 0 1) 6) (V (sf_si (sf_rf 0 1))) (sf_getS V (sf_rf 0 2)) t))) := by
  have c1 := sf_c11_1 sf_x
  have c2 := sf_c11_2 sf_x
  have c4 := sf_c11_4 sf_x
  simp only [q94_0, q94_1, q94_4, q94_5, q94_8, sf_x, c4]
  rw [s14 (d := d + 1) h1 hnx h2 hc]
  simp only [q94_11, q94_12, q94_15, q94_16, q94_19, q94_20, q94_21, sf_x, c2, Option.toList_some, Option.toList_none, List.cons_append, List.nil_append]
  have hp := sf_pt_now (V := V) (c := c) hnx
  have hhm := sf_pt_home (V := V) (c := c) hnx
  have hsi : sf_pt V nx c (sf_rf 0 2) (sf_si (sf_rf 0 1)) = V (sf_si (sf_rf 0 1)) := sf_pt_hrow hnx (sf_c2_1 c1)
  generalize hW : sf_pt V nx c (sf_rf 0 2) = W at hp hhm hsi ⊢
  have hs : W = sf_setS W (sf_rf 0 2) (sf_getS W (sf_rf 0 2)) := sf_setS_get.symm
  rw [hp] at hs
  have e := s43n (d := d) (V := W) (s := sf_rf 0 2) (h := sf_rf 0 1) (S := sf_getS V (sf_rf 0 2)) (p := p) (K := fun r M1 => sf_wp (d + 4) none 94 24 [some (.inr (.inl (some 0))), some (.inl (-1)), some (.inl p)] (r.toList ++ []) M1 K) c2 c1 (by rw [hhm]; exact hn) hn5 ht hd (by rw [hhm]; exact hg) (by rw [hsi]; exact hco) hw hh
  rw [← hs] at e
  refine Eq.trans e ?_
  rw [hhm, hsi]
  simp only [q94_24, q94_25, q94_28, q94_31, sf_x, c2, sf_setS_d, Option.toList_some, Option.toList_none, List.cons_append, List.nil_append]
  unfold sf_sp
  rw [hW]
  have g0 : sf_goes n (V (sf_rf 0 1) 6) (V (sf_si (sf_rf 0 1))) (sf_getS V (sf_rf 0 2)) t 0 = (t : Int) := by
    unfold sf_goes sf_turn sf_ru
    simp
  rw [g0]
theorem s94d {d n e t nx c : Nat} {p : Int} (h1 : V (sf_rf 0 4) 1 = (nx : Int)) (hnx : nx < 30) (h2 : V (sf_rf 0 4) 2 = (c : Int)) (hc : c ≤ 30) (hn : V (sf_rf 0 1) 4 = (n : Int)) (hn5 : n ≤ 5) (he : e < 6) (hp9 : 0 ≤ p ∧ p < n) (hd : 0 ≤ sf_getS V (sf_rf 0 2) 0 ∧ sf_getS V (sf_rf 0 2) 0 < n) (ht : sf_likes n (sf_getS V (sf_rf 0 2)) (sf_getS V (sf_rf 0 2) (e + 14)) p = (t : Int)) (hg : 0 ≤ V (sf_rf 0 1) 6 ∧ V (sf_rf 0 1) 6 ≤ 20) (hco : ∀ p, p < 5 → 0 ≤ V (sf_si (sf_rf 0 1)) p ∧ V (sf_si (sf_rf 0 1)) p ≤ 9) (hcs : 0 ≤ V (sf_la (sf_rf 0 1)) e ∧ V (sf_la (sf_rf 0 1)) e ≤ 9) (hw : ∀ p, p < 5 → 0 ≤ sf_getS V (sf_rf 0 2) (p + 4) ∧ sf_getS V (sf_rf 0 2) (p + 4) ≤ 99) (hlg : -100000 ≤ sf_getS V (sf_rf 0 2) 1 ∧ sf_getS V (sf_rf 0 2) 1 ≤ 100000) (hh : -1000 ≤ sf_getS V (sf_rf 0 2) 2 ∧ sf_getS V (sf_rf 0 2) 2 ≤ 100000) :
    sf_wp (d + 4) none 94 0 [some (.inr (.inl (some 0))), some (.inl (e : Int)), some (.inl p)] [] (sf_E V) K = K (some (.inl (t : Int))) (sf_E (sf_sp V nx c (sf_goes n (V (sf_rf 0 1) 6) (V (sf_si (sf_rf 0 1))) (sf_ru (sf_getS V (sf_rf 0 2)) 1 (sf_getS V (sf_rf 0 2) 1 - V (sf_la (sf_rf 0 1)) e)) t))) := by
  have c1 := sf_c11_1 sf_x
  have c2 := sf_c11_2 sf_x
  have c4 := sf_c11_4 sf_x
  simp only [q94_0, q94_1, q94_4, q94_5, q94_8, sf_x, c4]
  rw [s14 (d := d + 1) h1 hnx h2 hc]
  simp only [q94_11, q94_12, q94_15, q94_16, q94_19, q94_20, q94_21, sf_x, c2, Option.toList_some, Option.toList_none, List.cons_append, List.nil_append]
  have hp := sf_pt_now (V := V) (c := c) hnx
  have hhm := sf_pt_home (V := V) (c := c) hnx
  have hsi : sf_pt V nx c (sf_rf 0 2) (sf_si (sf_rf 0 1)) = V (sf_si (sf_rf 0 1)) := sf_pt_hrow hnx (sf_c2_1 c1)
  have hla : sf_pt V nx c (sf_rf 0 2) (sf_la (sf_rf 0 1)) = V (sf_la (sf_rf 0 1)) := sf_pt_hrow hnx (sf_c2_2 c1)
  generalize hW : sf_pt V nx c (sf_rf 0 2) = W at hp hhm hsi hla ⊢
  have hs : W = sf_setS W (sf_rf 0 2) (sf_getS W (sf_rf 0 2)) := sf_setS_get.symm
  rw [hp] at hs
  have e9 := s43d (d := d) (V := W) (s := sf_rf 0 2) (h := sf_rf 0 1) (S := sf_getS V (sf_rf 0 2)) (e := e) (t := t) (p := p) (K := fun r M1 => sf_wp (d + 4) none 94 24 [some (.inr (.inl (some 0))), some (.inl (e : Int)), some (.inl p)] (r.toList ++ []) M1 K) c2 c1 (by rw [hhm]; exact hn) hn5 he hp9 hd ht (by rw [hhm]; exact hg) (by rw [hsi]; exact hco) (by rw [hla]; exact hcs) hw hlg hh
  rw [← hs] at e9
  refine Eq.trans e9 ?_
  rw [hhm, hsi, hla]
  simp only [q94_24, q94_25, q94_28, q94_31, sf_x, c2, sf_setS_d, Option.toList_some, Option.toList_none, List.cons_append, List.nil_append]
  unfold sf_sp
  rw [hW]
  have g0 : ∀ T : Nat → Int, sf_goes n (V (sf_rf 0 1) 6) (V (sf_si (sf_rf 0 1))) T t 0 = (t : Int) := fun T => by
    unfold sf_goes sf_turn sf_ru
    simp
  rw [g0]
end SFH
