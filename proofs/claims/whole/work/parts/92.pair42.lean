/-! house -/
theorem sf_lo_hs : sf_rf 0 0 < 409 ∧ sf_rf 0 1 < 409 ∧ sf_rf (sf_rf (sf_rf 0 1) 1) 0 < 409 ∧ sf_rf (sf_rf (sf_rf 0 1) 2) 0 < 409 ∧ sf_rf 0 4 < 409 ∧ sf_rf (sf_rf 0 7) 0 < 409 ∧ sf_rf 0 8 < 409 ∧ sf_rf 0 9 < 409 ∧ sf_rf (sf_rf (sf_rf 0 0) 0) 0 < 409 := by decide +kernel
section SFP42
variable {V X U : sf_MV} {n nx c ce cf cg : Nat} {t : Nat → Int} {L : Nat}
/-- the class's end of a house well told -/
theorem s61w {A : sf_MV} {m nx0 : Nat} (hm5 : m ≤ 5) (hm : A (sf_rf (sf_rf 0 0) 1) 4 = (m : Int)) (hx : A (sf_rf 0 4) 1 = (nx0 : Int)) :
    ∃ F : sf_MV, (F (sf_rf 0 1) 4 = m ∧ F (sf_rf 0 1) 6 = A (sf_rf (sf_rf 0 0) 1) 6) ∧
      (∀ p, p < 5 → F (sf_rf (sf_rf (sf_rf 0 1) 1) 0) p = A (sf_rf (sf_rf (sf_rf (sf_rf 0 0) 1) 1) 0) p) ∧ (∀ e, e < 6 → F (sf_rf (sf_rf (sf_rf 0 1) 2) 0) e = A (sf_rf (sf_rf (sf_rf (sf_rf 0 0) 1) 2) 0) e) ∧
      (sf_getS F (sf_rf 0 2) 0 = (if m = 0 then -1 else A (sf_rf (sf_rf 0 0) 1) 5) ∧ sf_getS F (sf_rf 0 2) 1 = A (sf_rf (sf_rf 0 0) 1) 7 ∧ sf_getS F (sf_rf 0 2) 2 = 0 ∧ (∀ p, p < 5 → sf_getS F (sf_rf 0 2) (p + 4) = A (sf_rf (sf_rf (sf_rf (sf_rf 0 0) 1) 0) 0) p) ∧ (∀ p, p < 5 → sf_getS F (sf_rf 0 2) (p + 9) = -1) ∧ (∀ e, e < 6 → sf_getS F (sf_rf 0 2) (e + 14) = A (sf_rf (sf_rf (sf_rf (sf_rf 0 0) 1) 3) 0) e)) ∧
      (F (sf_rf 0 4) 1 = nx0 ∧ F (sf_rf 0 4) 2 = 0) ∧ (∀ i, i < 2 → F (sf_rf (sf_rf 0 7) 0) i = 0) ∧ F (sf_rf 0 8) 4 = 0 ∧ F (sf_rf 0 9) 2 = 0 ∧ F (sf_rf 0 0) = A (sf_rf 0 0) ∧ F 0 = A 0 ∧ F = sf_upd (sf_upd (sf_put (sf_upd (sf_mvi (sf_cpy A (sf_rf 0 1) (sf_rf (sf_rf 0 0) 1)) (sf_rf 0 2) (sf_rf 0 1)) (sf_rf 0 4) 2 0) (sf_rf (sf_rf 0 7) 0) 0 2 (fun _ => 0)) (sf_rf 0 8) 4 0) (sf_rf 0 9) 2 0 ∧
      ∀ K l1, sf_wp 19 none 61 25 [some (.inr (.inl (some 0))), l1] [] (sf_E A) K = K (some (.inl (m : Int))) (sf_E F) := by
  obtain ⟨c0, c1, c2⟩ := sf_txt
  have x0 := sf_c11_0 sf_x
  have x1 := sf_c11_1 sf_x
  have x2 := sf_c11_2 sf_x
  have x4 := sf_c11_4 sf_x
  have x7 := sf_c11_7 sf_x
  have x8 := sf_c11_8 sf_x
  have x9 := sf_c11_9 sf_x
  -- the home
  generalize hA1 : sf_cpy A (sf_rf 0 1) (sf_rf (sf_rf 0 0) 1) = A1
  have N1 : ∀ a, ¬ a = sf_rf 0 1 → (∀ k, ¬ a = sf_rf (sf_rf (sf_rf 0 1) k) 0) → A1 a = A a := fun a h1 h2 => by
    rw [← hA1]
    unfold sf_cpy
    rw [sf_put_ne (h2 3), sf_put_ne (h2 2), sf_put_ne (h2 1), sf_put_ne (h2 0), sf_upd_ne h1, sf_upd_ne h1, sf_upd_ne h1, sf_upd_ne h1]
  have H1 : A1 (sf_rf 0 1) 4 = m ∧ A1 (sf_rf 0 1) 5 = A (sf_rf (sf_rf 0 0) 1) 5 ∧ A1 (sf_rf 0 1) 6 = A (sf_rf (sf_rf 0 0) 1) 6 ∧ A1 (sf_rf 0 1) 7 = A (sf_rf (sf_rf 0 0) 1) 7 := by
    have nn : ∀ k, ¬ sf_rf 0 1 = sf_rf (sf_rf (sf_rf 0 1) k) 0 := fun k => by simp [sf_self2_rf]
    rw [← hA1]
    unfold sf_cpy
    rw [sf_put_ne (nn 3), sf_put_ne (nn 2), sf_put_ne (nn 1), sf_put_ne (nn 0)]
    refine ⟨?_, ?_, ?_, ?_⟩
    · rw [sf_upd_ne2 (by decide), sf_upd_ne2 (by decide), sf_upd_ne2 (by decide), sf_upd_eq, hm]
    · rw [sf_upd_ne2 (by decide), sf_upd_ne2 (by decide), sf_upd_eq]
    · rw [sf_upd_ne2 (by decide), sf_upd_eq]
    · rw [sf_upd_eq]
  have R1 : (∀ p, p < 5 → A1 (sf_rf (sf_rf (sf_rf 0 1) 0) 0) p = A (sf_rf (sf_rf (sf_rf (sf_rf 0 0) 1) 0) 0) p ∧ A1 (sf_rf (sf_rf (sf_rf 0 1) 1) 0) p = A (sf_rf (sf_rf (sf_rf (sf_rf 0 0) 1) 1) 0) p) ∧ (∀ e, e < 6 → A1 (sf_rf (sf_rf (sf_rf 0 1) 2) 0) e = A (sf_rf (sf_rf (sf_rf (sf_rf 0 0) 1) 2) 0) e ∧ A1 (sf_rf (sf_rf (sf_rf 0 1) 3) 0) e = A (sf_rf (sf_rf (sf_rf (sf_rf 0 0) 1) 3) 0) e) := by
    rw [← hA1]
    unfold sf_cpy
    refine ⟨fun p hp => ⟨?_, ?_⟩, fun e he => ⟨?_, ?_⟩⟩
    · rw [sf_put_ne (by simp [sf_rf_inj]), sf_put_ne (by simp [sf_rf_inj]), sf_put_ne (by simp [sf_rf_inj]), sf_put_at hp]
    · rw [sf_put_ne (by simp [sf_rf_inj]), sf_put_ne (by simp [sf_rf_inj]), sf_put_at hp]
    · rw [sf_put_ne (by simp [sf_rf_inj]), sf_put_at he]
    · rw [sf_put_at he]
  -- the stove
  generalize hA2 : sf_mvi A1 (sf_rf 0 2) (sf_rf 0 1) = A2
  have N2 : ∀ a, ¬ a = sf_rf 0 2 → (∀ k, ¬ a = sf_rf (sf_rf (sf_rf 0 2) k) 0) → A2 a = A1 a := fun a h1 h2 => by
    rw [← hA2]
    unfold sf_mvi
    rw [sf_upd_ne h1, sf_upd_ne h1, sf_upd_ne h1, sf_put_ne (h2 2), sf_put_ne (h2 1), sf_put_ne (h2 0)]
  have S0 : A2 (sf_rf 0 2) 3 = (if A1 (sf_rf 0 1) 4 ≤ 0 then -1 else A1 (sf_rf 0 1) 5) ∧ A2 (sf_rf 0 2) 4 = A1 (sf_rf 0 1) 7 ∧ A2 (sf_rf 0 2) 5 = 0 := by
    rw [← hA2]
    unfold sf_mvi
    refine ⟨?_, ?_, ?_⟩
    · rw [sf_upd_ne2 (by decide), sf_upd_ne2 (by decide), sf_upd_eq]
    · rw [sf_upd_ne2 (by decide), sf_upd_eq]
    · rw [sf_upd_eq]
  have S1 : (∀ p, p < 5 → A2 (sf_wa (sf_rf 0 2)) p = A1 (sf_rf (sf_rf (sf_rf 0 1) 0) 0) p ∧ A2 (sf_si (sf_rf 0 2)) p = -1) ∧ ∀ e, e < 6 → A2 (sf_la (sf_rf 0 2)) e = A1 (sf_rf (sf_rf (sf_rf 0 1) 3) 0) e := by
    rw [← hA2]
    unfold sf_mvi sf_wa sf_si sf_la
    refine ⟨fun p hp => ⟨?_, ?_⟩, fun e he => ?_⟩
    · rw [sf_upd_ne (by simp [sf_rf_self2]), sf_upd_ne (by simp [sf_rf_self2]), sf_upd_ne (by simp [sf_rf_self2]), sf_put_ne (by simp [sf_rf_inj]), sf_put_ne (by simp [sf_rf_inj]), sf_put_at hp]
    · rw [sf_upd_ne (by simp [sf_rf_self2]), sf_upd_ne (by simp [sf_rf_self2]), sf_upd_ne (by simp [sf_rf_self2]), sf_put_ne (by simp [sf_rf_inj]), sf_put_at hp]
    · rw [sf_upd_ne (by simp [sf_rf_self2]), sf_upd_ne (by simp [sf_rf_self2]), sf_upd_ne (by simp [sf_rf_self2]), sf_put_at he]
  -- the rest
  generalize hF : sf_upd (sf_upd (sf_put (sf_upd A2 (sf_rf 0 4) 2 0) (sf_rf (sf_rf 0 7) 0) 0 2 (fun _ => 0)) (sf_rf 0 8) 4 0) (sf_rf 0 9) 2 0 = F
  have NF : ∀ a, ¬ a = sf_rf 0 4 → ¬ a = sf_rf (sf_rf 0 7) 0 → ¬ a = sf_rf 0 8 → ¬ a = sf_rf 0 9 → F a = A2 a := fun a h4 h7 h8 h9 => by
    rw [← hF, sf_upd_ne h9, sf_upd_ne h8, sf_put_ne h7, sf_upd_ne h4]
  have Fh : F (sf_rf 0 1) = A1 (sf_rf 0 1) := by
    rw [NF _ (by simp [sf_rf_inj]) (by simp [sf_rf_inj, sf_0ne_rf]) (by simp [sf_rf_inj]) (by simp [sf_rf_inj]), N2 _ (by simp [sf_rf_inj]) (fun k => by simp [sf_rf_inj, sf_0ne_rf])]
  have Fr : ∀ k, F (sf_rf (sf_rf (sf_rf 0 1) k) 0) = A1 (sf_rf (sf_rf (sf_rf 0 1) k) 0) := fun k => by
    rw [NF _ (by simp [sf_rf_inj, sf_rf_ne0]) (by simp [sf_rf_inj, sf_rf_ne0]) (by simp [sf_rf_inj, sf_rf_ne0]) (by simp [sf_rf_inj, sf_rf_ne0]), N2 _ (by simp [sf_rf_inj, sf_rf_ne0]) (fun j => by simp [sf_rf_inj])]
  have Fs : sf_getS F (sf_rf 0 2) = sf_getS A2 (sf_rf 0 2) := by
    refine sf_getS_congr ?_ ?_ ?_ ?_
    · exact NF _ (by simp [sf_rf_inj]) (by simp [sf_rf_inj, sf_0ne_rf]) (by simp [sf_rf_inj]) (by simp [sf_rf_inj])
    · exact NF _ (by simp [sf_rf_inj, sf_rf_ne0]) (by simp [sf_rf_inj, sf_rf_ne0]) (by simp [sf_rf_inj, sf_rf_ne0]) (by simp [sf_rf_inj, sf_rf_ne0])
    · exact NF _ (by simp [sf_rf_inj, sf_rf_ne0]) (by simp [sf_rf_inj, sf_rf_ne0]) (by simp [sf_rf_inj, sf_rf_ne0]) (by simp [sf_rf_inj, sf_rf_ne0])
    · exact NF _ (by simp [sf_rf_inj, sf_rf_ne0]) (by simp [sf_rf_inj, sf_rf_ne0]) (by simp [sf_rf_inj, sf_rf_ne0]) (by simp [sf_rf_inj, sf_rf_ne0])
  refine ⟨F, ⟨?_, ?_⟩, fun p hp => ?_, fun e he => ?_, ⟨?_, ?_, ?_, fun p hp => ?_, fun p hp => ?_, fun e he => ?_⟩, ⟨?_, ?_⟩, fun i hi => ?_, ?_, ?_, ?_, ?_, by rw [← hF, ← hA2, ← hA1], fun K l1 => ?_⟩
  · rw [Fh]; exact H1.1
  · rw [Fh]; exact H1.2.2.1
  · rw [Fr]; exact (R1.1 p hp).2
  · rw [Fr]; exact (R1.2 e he).1
  · rw [Fs, sf_getS_d, S0.1, H1.1, H1.2.1]
    by_cases q : m = 0
    · rw [if_pos q, if_pos (by omega)]
    · rw [if_neg q, if_neg (by omega)]
  · rw [Fs, sf_getS_l, S0.2.1]; exact H1.2.2.2
  · rw [Fs, sf_getS_h]; exact S0.2.2
  · rw [Fs, sf_getS_w hp, (S1.1 p hp).1]; exact (R1.1 p hp).1
  · rw [Fs, sf_getS_i hp]; exact (S1.1 p hp).2
  · rw [Fs, sf_getS_r he, S1.2 e he]; exact (R1.2 e he).2
  · rw [← hF, sf_upd_ne (by simp [sf_rf_inj]), sf_upd_ne (by simp [sf_rf_inj]), sf_put_ne (by simp [sf_rf_inj, sf_0ne_rf]), sf_upd_ne2 (by decide), N2 _ (by simp [sf_rf_inj]) (fun k => by simp [sf_rf_inj, sf_0ne_rf]), N1 _ (by simp [sf_rf_inj]) (fun k => by simp [sf_rf_inj, sf_0ne_rf])]
    exact hx
  · rw [← hF, sf_upd_ne (by simp [sf_rf_inj]), sf_upd_ne (by simp [sf_rf_inj]), sf_put_ne (by simp [sf_rf_inj, sf_0ne_rf]), sf_upd_eq]
  · rw [← hF, sf_upd_ne (by simp [sf_rf_inj, sf_rf_ne0]), sf_upd_ne (by simp [sf_rf_inj, sf_rf_ne0]), sf_put_at hi]
  · rw [← hF, sf_upd_ne (by simp [sf_rf_inj]), sf_upd_eq]
  · rw [← hF, sf_upd_eq]
  · rw [NF _ (by simp [sf_rf_inj]) (by simp [sf_rf_inj, sf_0ne_rf]) (by simp [sf_rf_inj]) (by simp [sf_rf_inj]), N2 _ (by simp [sf_rf_inj]) (fun k => by simp [sf_rf_inj, sf_0ne_rf]), N1 _ (by simp [sf_rf_inj]) (fun k => by simp [sf_rf_inj, sf_0ne_rf])]
  · rw [NF _ (by simp [sf_0ne_rf]) (by simp [sf_0ne_rf]) (by simp [sf_0ne_rf]) (by simp [sf_0ne_rf]), N2 _ (by simp [sf_0ne_rf]) (fun k => by simp [sf_0ne_rf]), N1 _ (by simp [sf_0ne_rf]) (fun k => by simp [sf_0ne_rf])]
  · simp only [q61_25, q61_26, q61_29, q61_30, q61_33, sf_x, x0, x1]
    simp only [q61_36, x1, c2]
    rw [s8 (d := 17) x1 c2 (by simp [sf_rf_inj, sf_0ne_rf]) (fun k => by simp [sf_rf_inj, sf_rf_ne0]) (fun k => by simp [sf_rf_inj, sf_0ne_rf]), hA1]
    simp only [q61_39, q61_40, q61_43, q61_44, q61_47, sf_x, x1, x2, Option.toList_some, Option.toList_none, List.cons_append, List.nil_append]
    rw [s38 (d := 17), hA2]
    have g4 : F (sf_rf 0 1) 4 = (m : Int) := by rw [Fh]; exact H1.1
    simp only [q61_50, q61_51, q61_54, q61_55, q61_58, q61_59, q61_62, q61_63, q61_66, q61_67, q61_70, q61_71, q61_74, q61_75, q61_78, q61_79, q61_82, q61_83, q61_86, q61_89, sf_x, x1, x4, x7, x8, x9, s33, sf_rw7Len, hF, g4, Option.toList_some, Option.toList_none, List.cons_append, List.nil_append]
end SFP42
