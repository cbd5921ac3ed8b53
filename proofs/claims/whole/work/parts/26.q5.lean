/-! equations, an instruction each -/
-- L_law = 165
set_option maxRecDepth 100000 in
theorem q165_3 (d : Nat) (x : Nat) (l0 l1 l2 l3 : Option sf_V) (M : sf_M) (sc : Option (List Int)) (Q : Option sf_V → sf_M → Prop) : sf_wp d sc 165 3 [l0, l1, l2, l3] [.inr (.inl (some x))] M Q = sf_wp d sc 165 4 [l0, l1, l2, l3] [.inr (.inl (some x)), .inr (.inl (some x))] M Q := sf_q rfl rfl
set_option maxRecDepth 100000 in
theorem q165_4 (d : Nat) (a0 : Nat) (l0 l1 l2 l3 : Option sf_V) (s1 : sf_V) (M : sf_M) (sc : Option (List Int)) (Q : Option sf_V → sf_M → Prop) : sf_wp (d + 1) sc 165 4 [l0, l1, l2, l3] [.inr (.inl (some a0)), s1] M Q = sf_wp d none 59 0 [some (.inr (.inl (some a0)))] [] M (fun r M1 => sf_wp (d + 1) sc 165 7 [l0, l1, l2, l3] (r.toList ++ [s1]) M1 Q) := sf_qC rfl rfl ⟨⟨Nat.le_of_ble_eq_true rfl, Nat.le_of_ble_eq_true rfl, Nat.le_of_ble_eq_true rfl⟩, rfl⟩ rfl rfl
set_option maxRecDepth 100000 in
theorem q165_7 (d : Nat) (x : Nat) (l0 l1 l2 l3 : Option sf_V) (M : sf_M) (sc : Option (List Int)) (Q : Option sf_V → sf_M → Prop) : sf_wp d sc 165 7 [l0, l1, l2, l3] [.inr (.inl (some x))] M Q = sf_wp d sc 165 8 [l0, some (.inr (.inl (some x))), l2, l3] [] M Q := sf_q rfl rfl
set_option maxRecDepth 100000 in
theorem q165_11 (d : Nat) (x : Nat) (l0 l1 l2 l3 : Option sf_V) (M : sf_M) (sc : Option (List Int)) (Q : Option sf_V → sf_M → Prop) : sf_wp d sc 165 11 [l0, l1, l2, l3] [.inr (.inl (some x))] M Q = sf_wp d sc 165 12 [l0, l1, l2, l3] [.inr (.inl (some x)), .inr (.inl (some x))] M Q := sf_q rfl rfl
set_option maxRecDepth 100000 in
theorem q165_12 (d : Nat) (a0 : Nat) (l0 l1 l2 l3 : Option sf_V) (s1 : sf_V) (M : sf_M) (sc : Option (List Int)) (Q : Option sf_V → sf_M → Prop) : sf_wp (d + 1) sc 165 12 [l0, l1, l2, l3] [.inr (.inl (some a0)), s1] M Q = sf_wp d none 103 0 [some (.inr (.inl (some a0))), none] [] M (fun r M1 => sf_wp (d + 1) sc 165 15 [l0, l1, l2, l3] (r.toList ++ [s1]) M1 Q) := sf_qC rfl rfl ⟨⟨Nat.le_of_ble_eq_true rfl, Nat.le_of_ble_eq_true rfl, Nat.le_of_ble_eq_true rfl⟩, rfl⟩ rfl rfl
set_option maxRecDepth 100000 in
theorem q165_15 (d : Nat) (x : Nat) (l0 l1 l2 l3 : Option sf_V) (M : sf_M) (sc : Option (List Int)) (Q : Option sf_V → sf_M → Prop) : sf_wp d sc 165 15 [l0, l1, l2, l3] [.inr (.inl (some x))] M Q = sf_wp d sc 165 16 [l0, l1, some (.inr (.inl (some x))), l3] [] M Q := sf_q rfl rfl
set_option maxRecDepth 100000 in
theorem q165_16 (d : Nat) (l0 l1 l2 l3 : Option sf_V) (M : sf_M) (sc : Option (List Int)) (Q : Option sf_V → sf_M → Prop) : sf_wp d sc 165 16 [l0, l1, l2, l3] [] M Q = sf_wp d sc 165 17 [l0, l1, l2, l3] [.inl 0] M Q := sf_q rfl rfl
set_option maxRecDepth 100000 in
theorem q165_17 (d : Nat) (x : Int) (l0 l1 l2 l3 : Option sf_V) (M : sf_M) (sc : Option (List Int)) (Q : Option sf_V → sf_M → Prop) : sf_wp d sc 165 17 [l0, l1, l2, l3] [.inl x] M Q = sf_wp d sc 165 18 [l0, l1, l2, some (.inl x)] [] M Q := sf_q rfl rfl
set_option maxRecDepth 100000 in
theorem q165_18 (d : Nat) (x : Int) (l0 l1 l2 : Option sf_V) (M : sf_M) (sc : Option (List Int)) (Q : Option sf_V → sf_M → Prop) : sf_wp d sc 165 18 [l0, l1, l2, some (.inl x)] [] M Q = sf_wp d sc 165 19 [l0, l1, l2, some (.inl x)] [.inl x] M Q := sf_q rfl rfl
set_option maxRecDepth 100000 in
theorem q165_19 (d : Nat) (l1 l2 l3 : Option sf_V) (s0 : sf_V) (M : sf_M) (sc : Option (List Int)) (Q : Option sf_V → sf_M → Prop) : sf_wp d sc 165 19 [some (.inr (.inr (.inr ()))), l1, l2, l3] [s0] M Q = sf_wp d sc 165 20 [some (.inr (.inr (.inr ()))), l1, l2, l3] [.inr (.inr (.inr ())), s0] M Q := sf_q rfl rfl
set_option maxRecDepth 100000 in
theorem q165_20 (d : Nat) (l0 l1 l2 l3 : Option sf_V) (s1 : sf_V) (M : sf_M) (xs : List Int) (Q : Option sf_V → sf_M → Prop) : sf_wp d (some xs) 165 20 [l0, l1, l2, l3] [.inr (.inr (.inr ())), s1] M Q = sf_wp d (some xs) 165 21 [l0, l1, l2, l3] [.inl xs.length, s1] M Q := sf_qS_len rfl
set_option maxRecDepth 100000 in
theorem q165_21 (d : Nat) (l0 l1 l2 l3 : Option sf_V) (s0 s1 : sf_V) (M : sf_M) (sc : Option (List Int)) (Q : Option sf_V → sf_M → Prop) : sf_wp d sc 165 21 [l0, l1, l2, l3] [s0, s1] M Q = sf_wp d sc 165 22 [l0, l1, l2, l3] [.inl 5, s0, s1] M Q := sf_q rfl rfl
set_option maxRecDepth 100000 in
theorem q165_22 (d : Nat) (z : Int) (x : Int) (l0 l1 l2 l3 : Option sf_V) (s2 : sf_V) (M : sf_M) (sc : Option (List Int)) (Q : Option sf_V → sf_M → Prop) : sf_wp d sc 165 22 [l0, l1, l2, l3] [.inl z, .inl x, s2] M Q = sf_wp d sc 165 23 [l0, l1, l2, l3] [.inl (sf_w (x - z)), s2] M Q := sf_q rfl rfl
set_option maxRecDepth 100000 in
theorem q165_23 (d : Nat) (z : Int) (x : Int) (l0 l1 l2 l3 : Option sf_V) (M : sf_M) (sc : Option (List Int)) (Q : Option sf_V → sf_M → Prop) : sf_wp d sc 165 23 [l0, l1, l2, l3] [.inl z, .inl x] M Q = if z < x then sf_wp d sc 165 974 [l0, l1, l2, l3] [] M Q else sf_wp d sc 165 26 [l0, l1, l2, l3] [] M Q := sf_qic_gt rfl
set_option maxRecDepth 100000 in
theorem q165_26 (d : Nat) (l1 l2 l3 : Option sf_V) (M : sf_M) (sc : Option (List Int)) (Q : Option sf_V → sf_M → Prop) : sf_wp d sc 165 26 [some (.inr (.inr (.inr ()))), l1, l2, l3] [] M Q = sf_wp d sc 165 27 [some (.inr (.inr (.inr ()))), l1, l2, l3] [.inr (.inr (.inr ()))] M Q := sf_q rfl rfl
set_option maxRecDepth 100000 in
theorem q165_27 (d : Nat) (x : Int) (l0 l1 l2 : Option sf_V) (s0 : sf_V) (M : sf_M) (sc : Option (List Int)) (Q : Option sf_V → sf_M → Prop) : sf_wp d sc 165 27 [l0, l1, l2, some (.inl x)] [s0] M Q = sf_wp d sc 165 28 [l0, l1, l2, some (.inl x)] [.inl x, s0] M Q := sf_q rfl rfl
set_option maxRecDepth 100000 in
theorem q165_28 (d : Nat) (x : Int) (l0 l1 l2 l3 : Option sf_V) (M : sf_M) (xs : List Int) (Q : Option sf_V → sf_M → Prop) : sf_wp d (some xs) 165 28 [l0, l1, l2, l3] [.inl x, .inr (.inr (.inr ()))] M Q = ((0 ≤ x ∧ x < xs.length) ∧ sf_wp d (some xs) 165 29 [l0, l1, l2, l3] [.inl (xs.getD x.toNat 0)] M Q) := sf_qS_ld rfl
set_option maxRecDepth 100000 in
theorem q165_29 (d : Nat) (l0 l1 l2 l3 : Option sf_V) (s0 : sf_V) (M : sf_M) (sc : Option (List Int)) (Q : Option sf_V → sf_M → Prop) : sf_wp d sc 165 29 [l0, l1, l2, l3] [s0] M Q = sf_wp d sc 165 31 [l0, l1, l2, l3] [.inl 31, s0] M Q := sf_q rfl rfl
set_option maxRecDepth 100000 in
theorem q165_31 (d : Nat) (z : Int) (x : Int) (l0 l1 l2 l3 : Option sf_V) (M : sf_M) (sc : Option (List Int)) (Q : Option sf_V → sf_M → Prop) : sf_wp d sc 165 31 [l0, l1, l2, l3] [.inl z, .inl x] M Q = sf_wp d sc 165 32 [l0, l1, l2, l3] [.inl (Int32.ofInt x &&& Int32.ofInt z).toInt] M Q := sf_q rfl rfl
set_option maxRecDepth 100000 in
theorem q165_32 (d : Nat) (x : Int) (l0 l1 l2 l3 : Option sf_V) (M : sf_M) (sc : Option (List Int)) (Q : Option sf_V → sf_M → Prop) : sf_wp d sc 165 32 [l0, l1, l2, l3] [.inl x] M Q = if x = 0 then sf_wp d sc 165 168 [l0, l1, l2, l3] [] M Q else if x = 1 then sf_wp d sc 165 191 [l0, l1, l2, l3] [] M Q else if x = 2 then sf_wp d sc 165 204 [l0, l1, l2, l3] [] M Q else if x = 3 then sf_wp d sc 165 217 [l0, l1, l2, l3] [] M Q else if x = 4 then sf_wp d sc 165 240 [l0, l1, l2, l3] [] M Q else if x = 5 then sf_wp d sc 165 273 [l0, l1, l2, l3] [] M Q else if x = 6 then sf_wp d sc 165 306 [l0, l1, l2, l3] [] M Q else if x = 7 then sf_wp d sc 165 339 [l0, l1, l2, l3] [] M Q else if x = 8 then sf_wp d sc 165 362 [l0, l1, l2, l3] [] M Q else if x = 9 then sf_wp d sc 165 385 [l0, l1, l2, l3] [] M Q else if x = 10 then sf_wp d sc 165 408 [l0, l1, l2, l3] [] M Q else if x = 11 then sf_wp d sc 165 441 [l0, l1, l2, l3] [] M Q else if x = 12 then sf_wp d sc 165 464 [l0, l1, l2, l3] [] M Q else if x = 13 then sf_wp d sc 165 487 [l0, l1, l2, l3] [] M Q else if x = 14 then sf_wp d sc 165 530 [l0, l1, l2, l3] [] M Q else if x = 15 then sf_wp d sc 165 563 [l0, l1, l2, l3] [] M Q else if x = 16 then sf_wp d sc 165 616 [l0, l1, l2, l3] [] M Q else if x = 17 then sf_wp d sc 165 639 [l0, l1, l2, l3] [] M Q else if x = 18 then sf_wp d sc 165 652 [l0, l1, l2, l3] [] M Q else if x = 19 then sf_wp d sc 165 685 [l0, l1, l2, l3] [] M Q else if x = 20 then sf_wp d sc 165 708 [l0, l1, l2, l3] [] M Q else if x = 21 then sf_wp d sc 165 731 [l0, l1, l2, l3] [] M Q else if x = 22 then sf_wp d sc 165 784 [l0, l1, l2, l3] [] M Q else if x = 23 then sf_wp d sc 165 807 [l0, l1, l2, l3] [] M Q else if x = 24 then sf_wp d sc 165 830 [l0, l1, l2, l3] [] M Q else if x = 25 then sf_wp d sc 165 863 [l0, l1, l2, l3] [] M Q else if x = 26 then sf_wp d sc 165 886 [l0, l1, l2, l3] [] M Q else if x = 27 then sf_wp d sc 165 899 [l0, l1, l2, l3] [] M Q else if x = 28 then sf_wp d sc 165 922 [l0, l1, l2, l3] [] M Q else if x = 29 then sf_wp d sc 165 945 [l0, l1, l2, l3] [] M Q else sf_wp d sc 165 968 [l0, l1, l2, l3] [] M Q := by
  by_cases h0 : x = 0
  · subst h0; simp only [if_true, Int.reduceEq, if_false]; exact sf_q rfl rfl
  rw [if_neg h0]
  by_cases h1 : x = 1
  · subst h1; simp only [if_true, Int.reduceEq, if_false]; exact sf_q rfl rfl
  rw [if_neg h1]
  by_cases h2 : x = 2
  · subst h2; simp only [if_true, Int.reduceEq, if_false]; exact sf_q rfl rfl
  rw [if_neg h2]
  by_cases h3 : x = 3
  · subst h3; simp only [if_true, Int.reduceEq, if_false]; exact sf_q rfl rfl
  rw [if_neg h3]
  by_cases h4 : x = 4
  · subst h4; simp only [if_true, Int.reduceEq, if_false]; exact sf_q rfl rfl
  rw [if_neg h4]
  by_cases h5 : x = 5
  · subst h5; simp only [if_true, Int.reduceEq, if_false]; exact sf_q rfl rfl
  rw [if_neg h5]
  by_cases h6 : x = 6
  · subst h6; simp only [if_true, Int.reduceEq, if_false]; exact sf_q rfl rfl
  rw [if_neg h6]
  by_cases h7 : x = 7
  · subst h7; simp only [if_true, Int.reduceEq, if_false]; exact sf_q rfl rfl
  rw [if_neg h7]
  by_cases h8 : x = 8
  · subst h8; simp only [if_true, Int.reduceEq, if_false]; exact sf_q rfl rfl
  rw [if_neg h8]
  by_cases h9 : x = 9
  · subst h9; simp only [if_true, Int.reduceEq, if_false]; exact sf_q rfl rfl
  rw [if_neg h9]
  by_cases h10 : x = 10
  · subst h10; simp only [if_true, Int.reduceEq, if_false]; exact sf_q rfl rfl
  rw [if_neg h10]
  by_cases h11 : x = 11
  · subst h11; simp only [if_true, Int.reduceEq, if_false]; exact sf_q rfl rfl
  rw [if_neg h11]
  by_cases h12 : x = 12
  · subst h12; simp only [if_true, Int.reduceEq, if_false]; exact sf_q rfl rfl
  rw [if_neg h12]
  by_cases h13 : x = 13
  · subst h13; simp only [if_true, Int.reduceEq, if_false]; exact sf_q rfl rfl
  rw [if_neg h13]
  by_cases h14 : x = 14
  · subst h14; simp only [if_true, Int.reduceEq, if_false]; exact sf_q rfl rfl
  rw [if_neg h14]
  by_cases h15 : x = 15
  · subst h15; simp only [if_true, Int.reduceEq, if_false]; exact sf_q rfl rfl
  rw [if_neg h15]
  by_cases h16 : x = 16
  · subst h16; simp only [if_true, Int.reduceEq, if_false]; exact sf_q rfl rfl
  rw [if_neg h16]
  by_cases h17 : x = 17
  · subst h17; simp only [if_true, Int.reduceEq, if_false]; exact sf_q rfl rfl
  rw [if_neg h17]
  by_cases h18 : x = 18
  · subst h18; simp only [if_true, Int.reduceEq, if_false]; exact sf_q rfl rfl
  rw [if_neg h18]
  by_cases h19 : x = 19
  · subst h19; simp only [if_true, Int.reduceEq, if_false]; exact sf_q rfl rfl
  rw [if_neg h19]
  by_cases h20 : x = 20
  · subst h20; simp only [if_true, Int.reduceEq, if_false]; exact sf_q rfl rfl
  rw [if_neg h20]
  by_cases h21 : x = 21
  · subst h21; simp only [if_true, Int.reduceEq, if_false]; exact sf_q rfl rfl
  rw [if_neg h21]
  by_cases h22 : x = 22
  · subst h22; simp only [if_true, Int.reduceEq, if_false]; exact sf_q rfl rfl
  rw [if_neg h22]
  by_cases h23 : x = 23
  · subst h23; simp only [if_true, Int.reduceEq, if_false]; exact sf_q rfl rfl
  rw [if_neg h23]
  by_cases h24 : x = 24
  · subst h24; simp only [if_true, Int.reduceEq, if_false]; exact sf_q rfl rfl
  rw [if_neg h24]
  by_cases h25 : x = 25
  · subst h25; simp only [if_true, Int.reduceEq, if_false]; exact sf_q rfl rfl
  rw [if_neg h25]
  by_cases h26 : x = 26
  · subst h26; simp only [if_true, Int.reduceEq, if_false]; exact sf_q rfl rfl
  rw [if_neg h26]
  by_cases h27 : x = 27
  · subst h27; simp only [if_true, Int.reduceEq, if_false]; exact sf_q rfl rfl
  rw [if_neg h27]
  by_cases h28 : x = 28
  · subst h28; simp only [if_true, Int.reduceEq, if_false]; exact sf_q rfl rfl
  rw [if_neg h28]
  by_cases h29 : x = 29
  · subst h29; simp only [if_true, Int.reduceEq, if_false]; exact sf_q rfl rfl
  rw [if_neg h29]
  refine sf_q rfl ?_
  have h : x < 0 ∨ 29 < x := by omega
  unfold sf_aTs
  dsimp only
  rw [if_pos h]
  rfl
set_option maxRecDepth 100000 in
theorem q165_168 (d : Nat) (x : Nat) (l0 l2 l3 : Option sf_V) (M : sf_M) (sc : Option (List Int)) (Q : Option sf_V → sf_M → Prop) : sf_wp d sc 165 168 [l0, some (.inr (.inl (some x))), l2, l3] [] M Q = sf_wp d sc 165 169 [l0, some (.inr (.inl (some x))), l2, l3] [.inr (.inl (some x))] M Q := sf_q rfl rfl
set_option maxRecDepth 100000 in
theorem q165_169 (d : Nat) (l1 l2 l3 : Option sf_V) (s0 : sf_V) (M : sf_M) (sc : Option (List Int)) (Q : Option sf_V → sf_M → Prop) : sf_wp d sc 165 169 [some (.inr (.inr (.inr ()))), l1, l2, l3] [s0] M Q = sf_wp d sc 165 170 [some (.inr (.inr (.inr ()))), l1, l2, l3] [.inr (.inr (.inr ())), s0] M Q := sf_q rfl rfl
set_option maxRecDepth 100000 in
theorem q165_170 (d : Nat) (x : Int) (l0 l1 l2 : Option sf_V) (s0 s1 : sf_V) (M : sf_M) (sc : Option (List Int)) (Q : Option sf_V → sf_M → Prop) : sf_wp d sc 165 170 [l0, l1, l2, some (.inl x)] [s0, s1] M Q = sf_wp d sc 165 171 [l0, l1, l2, some (.inl x)] [.inl x, s0, s1] M Q := sf_q rfl rfl
set_option maxRecDepth 100000 in
theorem q165_171 (d : Nat) (l0 l1 l2 l3 : Option sf_V) (s0 s1 s2 : sf_V) (M : sf_M) (sc : Option (List Int)) (Q : Option sf_V → sf_M → Prop) : sf_wp d sc 165 171 [l0, l1, l2, l3] [s0, s1, s2] M Q = sf_wp d sc 165 172 [l0, l1, l2, l3] [.inl 1, s0, s1, s2] M Q := sf_q rfl rfl
set_option maxRecDepth 100000 in
theorem q165_172 (d : Nat) (z : Int) (x : Int) (l0 l1 l2 l3 : Option sf_V) (s2 s3 : sf_V) (M : sf_M) (sc : Option (List Int)) (Q : Option sf_V → sf_M → Prop) : sf_wp d sc 165 172 [l0, l1, l2, l3] [.inl z, .inl x, s2, s3] M Q = sf_wp d sc 165 173 [l0, l1, l2, l3] [.inl (sf_w (x + z)), s2, s3] M Q := sf_q rfl rfl
set_option maxRecDepth 100000 in
theorem q165_173 (d : Nat) (x : Int) (l0 l1 l2 l3 : Option sf_V) (s2 : sf_V) (M : sf_M) (xs : List Int) (Q : Option sf_V → sf_M → Prop) : sf_wp d (some xs) 165 173 [l0, l1, l2, l3] [.inl x, .inr (.inr (.inr ())), s2] M Q = ((0 ≤ x ∧ x < xs.length) ∧ sf_wp d (some xs) 165 174 [l0, l1, l2, l3] [.inl (xs.getD x.toNat 0), s2] M Q) := sf_qS_ld rfl
set_option maxRecDepth 100000 in
theorem q165_174 (d : Nat) (a1 : Int) (a0 : Nat) (l0 l1 l2 l3 : Option sf_V) (V : sf_MV) (sc : Option (List Int)) (Q : Option sf_V → sf_M → Prop) (h : sf_cls a0 = 11) : sf_wp (d + 1) sc 165 174 [l0, l1, l2, l3] [.inl a1, .inr (.inl (some a0))] (sf_E V) Q = sf_wp d none 60 0 [some (.inr (.inl (some a0))), some (.inl a1)] [] (sf_E V) (fun r M1 => sf_wp (d + 1) sc 165 177 [l0, l1, l2, l3] (r.toList ++ []) M1 Q) := sf_qV h rfl (by decide) ⟨⟨Nat.le_of_ble_eq_true rfl, Nat.le_of_ble_eq_true rfl, Nat.le_of_ble_eq_true rfl⟩, rfl⟩ rfl rfl rfl
set_option maxRecDepth 100000 in
theorem q165_177 (d : Nat) (x : Nat) (l0 l1 l3 : Option sf_V) (s0 : sf_V) (M : sf_M) (sc : Option (List Int)) (Q : Option sf_V → sf_M → Prop) : sf_wp d sc 165 177 [l0, l1, some (.inr (.inl (some x))), l3] [s0] M Q = sf_wp d sc 165 178 [l0, l1, some (.inr (.inl (some x))), l3] [.inr (.inl (some x)), s0] M Q := sf_q rfl rfl
set_option maxRecDepth 100000 in
theorem q165_178 (d : Nat) (l1 l2 l3 : Option sf_V) (s0 s1 : sf_V) (M : sf_M) (sc : Option (List Int)) (Q : Option sf_V → sf_M → Prop) : sf_wp d sc 165 178 [some (.inr (.inr (.inr ()))), l1, l2, l3] [s0, s1] M Q = sf_wp d sc 165 179 [some (.inr (.inr (.inr ()))), l1, l2, l3] [.inr (.inr (.inr ())), s0, s1] M Q := sf_q rfl rfl
set_option maxRecDepth 100000 in
theorem q165_179 (d : Nat) (x : Int) (l0 l1 l2 : Option sf_V) (s0 s1 s2 : sf_V) (M : sf_M) (sc : Option (List Int)) (Q : Option sf_V → sf_M → Prop) : sf_wp d sc 165 179 [l0, l1, l2, some (.inl x)] [s0, s1, s2] M Q = sf_wp d sc 165 180 [l0, l1, l2, some (.inl x)] [.inl x, s0, s1, s2] M Q := sf_q rfl rfl
set_option maxRecDepth 100000 in
theorem q165_180 (d : Nat) (l0 l1 l2 l3 : Option sf_V) (s0 s1 s2 s3 : sf_V) (M : sf_M) (sc : Option (List Int)) (Q : Option sf_V → sf_M → Prop) : sf_wp d sc 165 180 [l0, l1, l2, l3] [s0, s1, s2, s3] M Q = sf_wp d sc 165 181 [l0, l1, l2, l3] [.inl 1, s0, s1, s2, s3] M Q := sf_q rfl rfl
set_option maxRecDepth 100000 in
theorem q165_181 (d : Nat) (z : Int) (x : Int) (l0 l1 l2 l3 : Option sf_V) (s2 s3 s4 : sf_V) (M : sf_M) (sc : Option (List Int)) (Q : Option sf_V → sf_M → Prop) : sf_wp d sc 165 181 [l0, l1, l2, l3] [.inl z, .inl x, s2, s3, s4] M Q = sf_wp d sc 165 182 [l0, l1, l2, l3] [.inl (sf_w (x + z)), s2, s3, s4] M Q := sf_q rfl rfl
set_option maxRecDepth 100000 in
theorem q165_182 (d : Nat) (x : Int) (l0 l1 l2 l3 : Option sf_V) (s2 s3 : sf_V) (M : sf_M) (xs : List Int) (Q : Option sf_V → sf_M → Prop) : sf_wp d (some xs) 165 182 [l0, l1, l2, l3] [.inl x, .inr (.inr (.inr ())), s2, s3] M Q = ((0 ≤ x ∧ x < xs.length) ∧ sf_wp d (some xs) 165 183 [l0, l1, l2, l3] [.inl (xs.getD x.toNat 0), s2, s3] M Q) := sf_qS_ld rfl
set_option maxRecDepth 100000 in
theorem q165_183 (d : Nat) (a1 : Int) (a0 : Nat) (l0 l1 l2 l3 : Option sf_V) (s2 : sf_V) (V : sf_MV) (sc : Option (List Int)) (Q : Option sf_V → sf_M → Prop) (h : sf_cls a0 = 12) : sf_wp (d + 1) sc 165 183 [l0, l1, l2, l3] [.inl a1, .inr (.inl (some a0)), s2] (sf_E V) Q = sf_wp d none 104 0 [some (.inr (.inl (some a0))), some (.inl a1)] [] (sf_E V) (fun r M1 => sf_wp (d + 1) sc 165 186 [l0, l1, l2, l3] (r.toList ++ [s2]) M1 Q) := sf_qV h rfl (by decide) ⟨⟨Nat.le_of_ble_eq_true rfl, Nat.le_of_ble_eq_true rfl, Nat.le_of_ble_eq_true rfl⟩, rfl⟩ rfl rfl rfl
set_option maxRecDepth 100000 in
theorem q165_186 (d : Nat) (z : Int) (x : Int) (l0 l1 l2 l3 : Option sf_V) (M : sf_M) (sc : Option (List Int)) (Q : Option sf_V → sf_M → Prop) : sf_wp d sc 165 186 [l0, l1, l2, l3] [.inl z, .inl x] M Q = if x = z then sf_wp d sc 165 968 [l0, l1, l2, l3] [] M Q else sf_wp d sc 165 189 [l0, l1, l2, l3] [] M Q := sf_qic_eq rfl
set_option maxRecDepth 100000 in
theorem q165_189 (d : Nat) (l0 l1 l2 l3 : Option sf_V) (M : sf_M) (sc : Option (List Int)) (Q : Option sf_V → sf_M → Prop) : sf_wp d sc 165 189 [l0, l1, l2, l3] [] M Q = sf_wp d sc 165 190 [l0, l1, l2, l3] [.inl 0] M Q := sf_q rfl rfl
set_option maxRecDepth 100000 in
theorem q165_190 (d : Nat) (x : Int) (l0 l1 l2 l3 : Option sf_V) (M : sf_M) (sc : Option (List Int)) (Q : Option sf_V → sf_M → Prop) : sf_wp d sc 165 190 [l0, l1, l2, l3] [.inl x] M Q = ((x = 0 ∨ x = 1) ∧ Q (some (.inl x)) M) := sf_qRz rfl
set_option maxRecDepth 100000 in
theorem q165_191 (d : Nat) (x : Nat) (l0 l2 l3 : Option sf_V) (M : sf_M) (sc : Option (List Int)) (Q : Option sf_V → sf_M → Prop) : sf_wp d sc 165 191 [l0, some (.inr (.inl (some x))), l2, l3] [] M Q = sf_wp d sc 165 192 [l0, some (.inr (.inl (some x))), l2, l3] [.inr (.inl (some x))] M Q := sf_q rfl rfl
set_option maxRecDepth 100000 in
theorem q165_192 (d : Nat) (a0 : Nat) (l0 l1 l2 l3 : Option sf_V) (V : sf_MV) (sc : Option (List Int)) (Q : Option sf_V → sf_M → Prop) (h : sf_cls a0 = 11) : sf_wp (d + 1) sc 165 192 [l0, l1, l2, l3] [.inr (.inl (some a0))] (sf_E V) Q = sf_wp d none 61 0 [some (.inr (.inl (some a0))), none] [] (sf_E V) (fun r M1 => sf_wp (d + 1) sc 165 195 [l0, l1, l2, l3] (r.toList ++ []) M1 Q) := sf_qV h rfl (by decide) ⟨⟨Nat.le_of_ble_eq_true rfl, Nat.le_of_ble_eq_true rfl, Nat.le_of_ble_eq_true rfl⟩, rfl⟩ rfl rfl rfl
set_option maxRecDepth 100000 in
theorem q165_195 (d : Nat) (x : Nat) (l0 l1 l3 : Option sf_V) (s0 : sf_V) (M : sf_M) (sc : Option (List Int)) (Q : Option sf_V → sf_M → Prop) : sf_wp d sc 165 195 [l0, l1, some (.inr (.inl (some x))), l3] [s0] M Q = sf_wp d sc 165 196 [l0, l1, some (.inr (.inl (some x))), l3] [.inr (.inl (some x)), s0] M Q := sf_q rfl rfl
set_option maxRecDepth 100000 in
theorem q165_196 (d : Nat) (a0 : Nat) (l0 l1 l2 l3 : Option sf_V) (s1 : sf_V) (V : sf_MV) (sc : Option (List Int)) (Q : Option sf_V → sf_M → Prop) (h : sf_cls a0 = 12) : sf_wp (d + 1) sc 165 196 [l0, l1, l2, l3] [.inr (.inl (some a0)), s1] (sf_E V) Q = sf_wp d none 115 0 [some (.inr (.inl (some a0))), none, none] [] (sf_E V) (fun r M1 => sf_wp (d + 1) sc 165 199 [l0, l1, l2, l3] (r.toList ++ [s1]) M1 Q) := sf_qV h rfl (by decide) ⟨⟨Nat.le_of_ble_eq_true rfl, Nat.le_of_ble_eq_true rfl, Nat.le_of_ble_eq_true rfl⟩, rfl⟩ rfl rfl rfl
set_option maxRecDepth 100000 in
theorem q165_199 (d : Nat) (z : Int) (x : Int) (l0 l1 l2 l3 : Option sf_V) (M : sf_M) (sc : Option (List Int)) (Q : Option sf_V → sf_M → Prop) : sf_wp d sc 165 199 [l0, l1, l2, l3] [.inl z, .inl x] M Q = if x = z then sf_wp d sc 165 968 [l0, l1, l2, l3] [] M Q else sf_wp d sc 165 202 [l0, l1, l2, l3] [] M Q := sf_qic_eq rfl
set_option maxRecDepth 100000 in
theorem q165_202 (d : Nat) (l0 l1 l2 l3 : Option sf_V) (M : sf_M) (sc : Option (List Int)) (Q : Option sf_V → sf_M → Prop) : sf_wp d sc 165 202 [l0, l1, l2, l3] [] M Q = sf_wp d sc 165 203 [l0, l1, l2, l3] [.inl 0] M Q := sf_q rfl rfl
set_option maxRecDepth 100000 in
theorem q165_203 (d : Nat) (x : Int) (l0 l1 l2 l3 : Option sf_V) (M : sf_M) (sc : Option (List Int)) (Q : Option sf_V → sf_M → Prop) : sf_wp d sc 165 203 [l0, l1, l2, l3] [.inl x] M Q = ((x = 0 ∨ x = 1) ∧ Q (some (.inl x)) M) := sf_qRz rfl
set_option maxRecDepth 100000 in
theorem q165_204 (d : Nat) (x : Nat) (l0 l2 l3 : Option sf_V) (M : sf_M) (sc : Option (List Int)) (Q : Option sf_V → sf_M → Prop) : sf_wp d sc 165 204 [l0, some (.inr (.inl (some x))), l2, l3] [] M Q = sf_wp d sc 165 205 [l0, some (.inr (.inl (some x))), l2, l3] [.inr (.inl (some x))] M Q := sf_q rfl rfl
set_option maxRecDepth 100000 in
theorem q165_205 (d : Nat) (a0 : Nat) (l0 l1 l2 l3 : Option sf_V) (V : sf_MV) (sc : Option (List Int)) (Q : Option sf_V → sf_M → Prop) (h : sf_cls a0 = 11) : sf_wp (d + 1) sc 165 205 [l0, l1, l2, l3] [.inr (.inl (some a0))] (sf_E V) Q = sf_wp d none 62 0 [some (.inr (.inl (some a0)))] [] (sf_E V) (fun r M1 => sf_wp (d + 1) sc 165 208 [l0, l1, l2, l3] (r.toList ++ []) M1 Q) := sf_qV h rfl (by decide) ⟨⟨Nat.le_of_ble_eq_true rfl, Nat.le_of_ble_eq_true rfl, Nat.le_of_ble_eq_true rfl⟩, rfl⟩ rfl rfl rfl
set_option maxRecDepth 100000 in
theorem q165_208 (d : Nat) (x : Nat) (l0 l1 l3 : Option sf_V) (s0 : sf_V) (M : sf_M) (sc : Option (List Int)) (Q : Option sf_V → sf_M → Prop) : sf_wp d sc 165 208 [l0, l1, some (.inr (.inl (some x))), l3] [s0] M Q = sf_wp d sc 165 209 [l0, l1, some (.inr (.inl (some x))), l3] [.inr (.inl (some x)), s0] M Q := sf_q rfl rfl
set_option maxRecDepth 100000 in
theorem q165_209 (d : Nat) (a0 : Nat) (l0 l1 l2 l3 : Option sf_V) (s1 : sf_V) (V : sf_MV) (sc : Option (List Int)) (Q : Option sf_V → sf_M → Prop) (h : sf_cls a0 = 12) : sf_wp (d + 1) sc 165 209 [l0, l1, l2, l3] [.inr (.inl (some a0)), s1] (sf_E V) Q = sf_wp d none 116 0 [some (.inr (.inl (some a0)))] [] (sf_E V) (fun r M1 => sf_wp (d + 1) sc 165 212 [l0, l1, l2, l3] (r.toList ++ [s1]) M1 Q) := sf_qV h rfl (by decide) ⟨⟨Nat.le_of_ble_eq_true rfl, Nat.le_of_ble_eq_true rfl, Nat.le_of_ble_eq_true rfl⟩, rfl⟩ rfl rfl rfl
set_option maxRecDepth 100000 in
theorem q165_212 (d : Nat) (z : Int) (x : Int) (l0 l1 l2 l3 : Option sf_V) (M : sf_M) (sc : Option (List Int)) (Q : Option sf_V → sf_M → Prop) : sf_wp d sc 165 212 [l0, l1, l2, l3] [.inl z, .inl x] M Q = if x = z then sf_wp d sc 165 968 [l0, l1, l2, l3] [] M Q else sf_wp d sc 165 215 [l0, l1, l2, l3] [] M Q := sf_qic_eq rfl
set_option maxRecDepth 100000 in
theorem q165_215 (d : Nat) (l0 l1 l2 l3 : Option sf_V) (M : sf_M) (sc : Option (List Int)) (Q : Option sf_V → sf_M → Prop) : sf_wp d sc 165 215 [l0, l1, l2, l3] [] M Q = sf_wp d sc 165 216 [l0, l1, l2, l3] [.inl 0] M Q := sf_q rfl rfl
set_option maxRecDepth 100000 in
theorem q165_216 (d : Nat) (x : Int) (l0 l1 l2 l3 : Option sf_V) (M : sf_M) (sc : Option (List Int)) (Q : Option sf_V → sf_M → Prop) : sf_wp d sc 165 216 [l0, l1, l2, l3] [.inl x] M Q = ((x = 0 ∨ x = 1) ∧ Q (some (.inl x)) M) := sf_qRz rfl
set_option maxRecDepth 100000 in
theorem q165_217 (d : Nat) (x : Nat) (l0 l2 l3 : Option sf_V) (M : sf_M) (sc : Option (List Int)) (Q : Option sf_V → sf_M → Prop) : sf_wp d sc 165 217 [l0, some (.inr (.inl (some x))), l2, l3] [] M Q = sf_wp d sc 165 218 [l0, some (.inr (.inl (some x))), l2, l3] [.inr (.inl (some x))] M Q := sf_q rfl rfl
set_option maxRecDepth 100000 in
theorem q165_218 (d : Nat) (l1 l2 l3 : Option sf_V) (s0 : sf_V) (M : sf_M) (sc : Option (List Int)) (Q : Option sf_V → sf_M → Prop) : sf_wp d sc 165 218 [some (.inr (.inr (.inr ()))), l1, l2, l3] [s0] M Q = sf_wp d sc 165 219 [some (.inr (.inr (.inr ()))), l1, l2, l3] [.inr (.inr (.inr ())), s0] M Q := sf_q rfl rfl
set_option maxRecDepth 100000 in
theorem q165_219 (d : Nat) (x : Int) (l0 l1 l2 : Option sf_V) (s0 s1 : sf_V) (M : sf_M) (sc : Option (List Int)) (Q : Option sf_V → sf_M → Prop) : sf_wp d sc 165 219 [l0, l1, l2, some (.inl x)] [s0, s1] M Q = sf_wp d sc 165 220 [l0, l1, l2, some (.inl x)] [.inl x, s0, s1] M Q := sf_q rfl rfl
set_option maxRecDepth 100000 in
theorem q165_220 (d : Nat) (l0 l1 l2 l3 : Option sf_V) (s0 s1 s2 : sf_V) (M : sf_M) (sc : Option (List Int)) (Q : Option sf_V → sf_M → Prop) : sf_wp d sc 165 220 [l0, l1, l2, l3] [s0, s1, s2] M Q = sf_wp d sc 165 221 [l0, l1, l2, l3] [.inl 1, s0, s1, s2] M Q := sf_q rfl rfl
set_option maxRecDepth 100000 in
theorem q165_221 (d : Nat) (z : Int) (x : Int) (l0 l1 l2 l3 : Option sf_V) (s2 s3 : sf_V) (M : sf_M) (sc : Option (List Int)) (Q : Option sf_V → sf_M → Prop) : sf_wp d sc 165 221 [l0, l1, l2, l3] [.inl z, .inl x, s2, s3] M Q = sf_wp d sc 165 222 [l0, l1, l2, l3] [.inl (sf_w (x + z)), s2, s3] M Q := sf_q rfl rfl
set_option maxRecDepth 100000 in
theorem q165_222 (d : Nat) (x : Int) (l0 l1 l2 l3 : Option sf_V) (s2 : sf_V) (M : sf_M) (xs : List Int) (Q : Option sf_V → sf_M → Prop) : sf_wp d (some xs) 165 222 [l0, l1, l2, l3] [.inl x, .inr (.inr (.inr ())), s2] M Q = ((0 ≤ x ∧ x < xs.length) ∧ sf_wp d (some xs) 165 223 [l0, l1, l2, l3] [.inl (xs.getD x.toNat 0), s2] M Q) := sf_qS_ld rfl
set_option maxRecDepth 100000 in
theorem q165_223 (d : Nat) (a1 : Int) (a0 : Nat) (l0 l1 l2 l3 : Option sf_V) (V : sf_MV) (sc : Option (List Int)) (Q : Option sf_V → sf_M → Prop) (h : sf_cls a0 = 11) : sf_wp (d + 1) sc 165 223 [l0, l1, l2, l3] [.inl a1, .inr (.inl (some a0))] (sf_E V) Q = sf_wp d none 63 0 [some (.inr (.inl (some a0))), some (.inl a1)] [] (sf_E V) (fun r M1 => sf_wp (d + 1) sc 165 226 [l0, l1, l2, l3] (r.toList ++ []) M1 Q) := sf_qV h rfl (by decide) ⟨⟨Nat.le_of_ble_eq_true rfl, Nat.le_of_ble_eq_true rfl, Nat.le_of_ble_eq_true rfl⟩, rfl⟩ rfl rfl rfl
set_option maxRecDepth 100000 in
theorem q165_226 (d : Nat) (x : Nat) (l0 l1 l3 : Option sf_V) (s0 : sf_V) (M : sf_M) (sc : Option (List Int)) (Q : Option sf_V → sf_M → Prop) : sf_wp d sc 165 226 [l0, l1, some (.inr (.inl (some x))), l3] [s0] M Q = sf_wp d sc 165 227 [l0, l1, some (.inr (.inl (some x))), l3] [.inr (.inl (some x)), s0] M Q := sf_q rfl rfl
set_option maxRecDepth 100000 in
theorem q165_227 (d : Nat) (l1 l2 l3 : Option sf_V) (s0 s1 : sf_V) (M : sf_M) (sc : Option (List Int)) (Q : Option sf_V → sf_M → Prop) : sf_wp d sc 165 227 [some (.inr (.inr (.inr ()))), l1, l2, l3] [s0, s1] M Q = sf_wp d sc 165 228 [some (.inr (.inr (.inr ()))), l1, l2, l3] [.inr (.inr (.inr ())), s0, s1] M Q := sf_q rfl rfl
set_option maxRecDepth 100000 in
theorem q165_228 (d : Nat) (x : Int) (l0 l1 l2 : Option sf_V) (s0 s1 s2 : sf_V) (M : sf_M) (sc : Option (List Int)) (Q : Option sf_V → sf_M → Prop) : sf_wp d sc 165 228 [l0, l1, l2, some (.inl x)] [s0, s1, s2] M Q = sf_wp d sc 165 229 [l0, l1, l2, some (.inl x)] [.inl x, s0, s1, s2] M Q := sf_q rfl rfl
set_option maxRecDepth 100000 in
theorem q165_229 (d : Nat) (l0 l1 l2 l3 : Option sf_V) (s0 s1 s2 s3 : sf_V) (M : sf_M) (sc : Option (List Int)) (Q : Option sf_V → sf_M → Prop) : sf_wp d sc 165 229 [l0, l1, l2, l3] [s0, s1, s2, s3] M Q = sf_wp d sc 165 230 [l0, l1, l2, l3] [.inl 1, s0, s1, s2, s3] M Q := sf_q rfl rfl
set_option maxRecDepth 100000 in
theorem q165_230 (d : Nat) (z : Int) (x : Int) (l0 l1 l2 l3 : Option sf_V) (s2 s3 s4 : sf_V) (M : sf_M) (sc : Option (List Int)) (Q : Option sf_V → sf_M → Prop) : sf_wp d sc 165 230 [l0, l1, l2, l3] [.inl z, .inl x, s2, s3, s4] M Q = sf_wp d sc 165 231 [l0, l1, l2, l3] [.inl (sf_w (x + z)), s2, s3, s4] M Q := sf_q rfl rfl
set_option maxRecDepth 100000 in
theorem q165_231 (d : Nat) (x : Int) (l0 l1 l2 l3 : Option sf_V) (s2 s3 : sf_V) (M : sf_M) (xs : List Int) (Q : Option sf_V → sf_M → Prop) : sf_wp d (some xs) 165 231 [l0, l1, l2, l3] [.inl x, .inr (.inr (.inr ())), s2, s3] M Q = ((0 ≤ x ∧ x < xs.length) ∧ sf_wp d (some xs) 165 232 [l0, l1, l2, l3] [.inl (xs.getD x.toNat 0), s2, s3] M Q) := sf_qS_ld rfl
set_option maxRecDepth 100000 in
theorem q165_232 (d : Nat) (a1 : Int) (a0 : Nat) (l0 l1 l2 l3 : Option sf_V) (s2 : sf_V) (V : sf_MV) (sc : Option (List Int)) (Q : Option sf_V → sf_M → Prop) (h : sf_cls a0 = 12) : sf_wp (d + 1) sc 165 232 [l0, l1, l2, l3] [.inl a1, .inr (.inl (some a0)), s2] (sf_E V) Q = sf_wp d none 119 0 [some (.inr (.inl (some a0))), some (.inl a1), none, none, none] [] (sf_E V) (fun r M1 => sf_wp (d + 1) sc 165 235 [l0, l1, l2, l3] (r.toList ++ [s2]) M1 Q) := sf_qV h rfl (by decide) ⟨⟨Nat.le_of_ble_eq_true rfl, Nat.le_of_ble_eq_true rfl, Nat.le_of_ble_eq_true rfl⟩, rfl⟩ rfl rfl rfl
set_option maxRecDepth 100000 in
theorem q165_235 (d : Nat) (z : Int) (x : Int) (l0 l1 l2 l3 : Option sf_V) (M : sf_M) (sc : Option (List Int)) (Q : Option sf_V → sf_M → Prop) : sf_wp d sc 165 235 [l0, l1, l2, l3] [.inl z, .inl x] M Q = if x = z then sf_wp d sc 165 968 [l0, l1, l2, l3] [] M Q else sf_wp d sc 165 238 [l0, l1, l2, l3] [] M Q := sf_qic_eq rfl
set_option maxRecDepth 100000 in
theorem q165_238 (d : Nat) (l0 l1 l2 l3 : Option sf_V) (M : sf_M) (sc : Option (List Int)) (Q : Option sf_V → sf_M → Prop) : sf_wp d sc 165 238 [l0, l1, l2, l3] [] M Q = sf_wp d sc 165 239 [l0, l1, l2, l3] [.inl 0] M Q := sf_q rfl rfl
set_option maxRecDepth 100000 in
theorem q165_239 (d : Nat) (x : Int) (l0 l1 l2 l3 : Option sf_V) (M : sf_M) (sc : Option (List Int)) (Q : Option sf_V → sf_M → Prop) : sf_wp d sc 165 239 [l0, l1, l2, l3] [.inl x] M Q = ((x = 0 ∨ x = 1) ∧ Q (some (.inl x)) M) := sf_qRz rfl
set_option maxRecDepth 100000 in
theorem q165_240 (d : Nat) (x : Nat) (l0 l2 l3 : Option sf_V) (M : sf_M) (sc : Option (List Int)) (Q : Option sf_V → sf_M → Prop) : sf_wp d sc 165 240 [l0, some (.inr (.inl (some x))), l2, l3] [] M Q = sf_wp d sc 165 241 [l0, some (.inr (.inl (some x))), l2, l3] [.inr (.inl (some x))] M Q := sf_q rfl rfl
set_option maxRecDepth 100000 in
theorem q165_241 (d : Nat) (l1 l2 l3 : Option sf_V) (s0 : sf_V) (M : sf_M) (sc : Option (List Int)) (Q : Option sf_V → sf_M → Prop) : sf_wp d sc 165 241 [some (.inr (.inr (.inr ()))), l1, l2, l3] [s0] M Q = sf_wp d sc 165 242 [some (.inr (.inr (.inr ()))), l1, l2, l3] [.inr (.inr (.inr ())), s0] M Q := sf_q rfl rfl
set_option maxRecDepth 100000 in
theorem q165_242 (d : Nat) (x : Int) (l0 l1 l2 : Option sf_V) (s0 s1 : sf_V) (M : sf_M) (sc : Option (List Int)) (Q : Option sf_V → sf_M → Prop) : sf_wp d sc 165 242 [l0, l1, l2, some (.inl x)] [s0, s1] M Q = sf_wp d sc 165 243 [l0, l1, l2, some (.inl x)] [.inl x, s0, s1] M Q := sf_q rfl rfl
set_option maxRecDepth 100000 in
theorem q165_243 (d : Nat) (l0 l1 l2 l3 : Option sf_V) (s0 s1 s2 : sf_V) (M : sf_M) (sc : Option (List Int)) (Q : Option sf_V → sf_M → Prop) : sf_wp d sc 165 243 [l0, l1, l2, l3] [s0, s1, s2] M Q = sf_wp d sc 165 244 [l0, l1, l2, l3] [.inl 1, s0, s1, s2] M Q := sf_q rfl rfl
set_option maxRecDepth 100000 in
theorem q165_244 (d : Nat) (z : Int) (x : Int) (l0 l1 l2 l3 : Option sf_V) (s2 s3 : sf_V) (M : sf_M) (sc : Option (List Int)) (Q : Option sf_V → sf_M → Prop) : sf_wp d sc 165 244 [l0, l1, l2, l3] [.inl z, .inl x, s2, s3] M Q = sf_wp d sc 165 245 [l0, l1, l2, l3] [.inl (sf_w (x + z)), s2, s3] M Q := sf_q rfl rfl
set_option maxRecDepth 100000 in
theorem q165_245 (d : Nat) (x : Int) (l0 l1 l2 l3 : Option sf_V) (s2 : sf_V) (M : sf_M) (xs : List Int) (Q : Option sf_V → sf_M → Prop) : sf_wp d (some xs) 165 245 [l0, l1, l2, l3] [.inl x, .inr (.inr (.inr ())), s2] M Q = ((0 ≤ x ∧ x < xs.length) ∧ sf_wp d (some xs) 165 246 [l0, l1, l2, l3] [.inl (xs.getD x.toNat 0), s2] M Q) := sf_qS_ld rfl
set_option maxRecDepth 100000 in
theorem q165_246 (d : Nat) (l1 l2 l3 : Option sf_V) (s0 s1 : sf_V) (M : sf_M) (sc : Option (List Int)) (Q : Option sf_V → sf_M → Prop) : sf_wp d sc 165 246 [some (.inr (.inr (.inr ()))), l1, l2, l3] [s0, s1] M Q = sf_wp d sc 165 247 [some (.inr (.inr (.inr ()))), l1, l2, l3] [.inr (.inr (.inr ())), s0, s1] M Q := sf_q rfl rfl
set_option maxRecDepth 100000 in
theorem q165_247 (d : Nat) (x : Int) (l0 l1 l2 : Option sf_V) (s0 s1 s2 : sf_V) (M : sf_M) (sc : Option (List Int)) (Q : Option sf_V → sf_M → Prop) : sf_wp d sc 165 247 [l0, l1, l2, some (.inl x)] [s0, s1, s2] M Q = sf_wp d sc 165 248 [l0, l1, l2, some (.inl x)] [.inl x, s0, s1, s2] M Q := sf_q rfl rfl
set_option maxRecDepth 100000 in
theorem q165_248 (d : Nat) (l0 l1 l2 l3 : Option sf_V) (s0 s1 s2 s3 : sf_V) (M : sf_M) (sc : Option (List Int)) (Q : Option sf_V → sf_M → Prop) : sf_wp d sc 165 248 [l0, l1, l2, l3] [s0, s1, s2, s3] M Q = sf_wp d sc 165 249 [l0, l1, l2, l3] [.inl 2, s0, s1, s2, s3] M Q := sf_q rfl rfl
set_option maxRecDepth 100000 in
theorem q165_249 (d : Nat) (z : Int) (x : Int) (l0 l1 l2 l3 : Option sf_V) (s2 s3 s4 : sf_V) (M : sf_M) (sc : Option (List Int)) (Q : Option sf_V → sf_M → Prop) : sf_wp d sc 165 249 [l0, l1, l2, l3] [.inl z, .inl x, s2, s3, s4] M Q = sf_wp d sc 165 250 [l0, l1, l2, l3] [.inl (sf_w (x + z)), s2, s3, s4] M Q := sf_q rfl rfl
set_option maxRecDepth 100000 in
theorem q165_250 (d : Nat) (x : Int) (l0 l1 l2 l3 : Option sf_V) (s2 s3 : sf_V) (M : sf_M) (xs : List Int) (Q : Option sf_V → sf_M → Prop) : sf_wp d (some xs) 165 250 [l0, l1, l2, l3] [.inl x, .inr (.inr (.inr ())), s2, s3] M Q = ((0 ≤ x ∧ x < xs.length) ∧ sf_wp d (some xs) 165 251 [l0, l1, l2, l3] [.inl (xs.getD x.toNat 0), s2, s3] M Q) := sf_qS_ld rfl
set_option maxRecDepth 100000 in
theorem q165_251 (d : Nat) (a2 : Int) (a1 : Int) (a0 : Nat) (l0 l1 l2 l3 : Option sf_V) (V : sf_MV) (sc : Option (List Int)) (Q : Option sf_V → sf_M → Prop) (h : sf_cls a0 = 11) : sf_wp (d + 1) sc 165 251 [l0, l1, l2, l3] [.inl a2, .inl a1, .inr (.inl (some a0))] (sf_E V) Q = sf_wp d none 64 0 [some (.inr (.inl (some a0))), some (.inl a1), some (.inl a2)] [] (sf_E V) (fun r M1 => sf_wp (d + 1) sc 165 254 [l0, l1, l2, l3] (r.toList ++ []) M1 Q) := sf_qV h rfl (by decide) ⟨⟨Nat.le_of_ble_eq_true rfl, Nat.le_of_ble_eq_true rfl, Nat.le_of_ble_eq_true rfl⟩, rfl⟩ rfl rfl rfl
set_option maxRecDepth 100000 in
theorem q165_254 (d : Nat) (x : Nat) (l0 l1 l3 : Option sf_V) (s0 : sf_V) (M : sf_M) (sc : Option (List Int)) (Q : Option sf_V → sf_M → Prop) : sf_wp d sc 165 254 [l0, l1, some (.inr (.inl (some x))), l3] [s0] M Q = sf_wp d sc 165 255 [l0, l1, some (.inr (.inl (some x))), l3] [.inr (.inl (some x)), s0] M Q := sf_q rfl rfl
set_option maxRecDepth 100000 in
theorem q165_255 (d : Nat) (l1 l2 l3 : Option sf_V) (s0 s1 : sf_V) (M : sf_M) (sc : Option (List Int)) (Q : Option sf_V → sf_M → Prop) : sf_wp d sc 165 255 [some (.inr (.inr (.inr ()))), l1, l2, l3] [s0, s1] M Q = sf_wp d sc 165 256 [some (.inr (.inr (.inr ()))), l1, l2, l3] [.inr (.inr (.inr ())), s0, s1] M Q := sf_q rfl rfl
set_option maxRecDepth 100000 in
theorem q165_256 (d : Nat) (x : Int) (l0 l1 l2 : Option sf_V) (s0 s1 s2 : sf_V) (M : sf_M) (sc : Option (List Int)) (Q : Option sf_V → sf_M → Prop) : sf_wp d sc 165 256 [l0, l1, l2, some (.inl x)] [s0, s1, s2] M Q = sf_wp d sc 165 257 [l0, l1, l2, some (.inl x)] [.inl x, s0, s1, s2] M Q := sf_q rfl rfl
set_option maxRecDepth 100000 in
theorem q165_257 (d : Nat) (l0 l1 l2 l3 : Option sf_V) (s0 s1 s2 s3 : sf_V) (M : sf_M) (sc : Option (List Int)) (Q : Option sf_V → sf_M → Prop) : sf_wp d sc 165 257 [l0, l1, l2, l3] [s0, s1, s2, s3] M Q = sf_wp d sc 165 258 [l0, l1, l2, l3] [.inl 1, s0, s1, s2, s3] M Q := sf_q rfl rfl
set_option maxRecDepth 100000 in
theorem q165_258 (d : Nat) (z : Int) (x : Int) (l0 l1 l2 l3 : Option sf_V) (s2 s3 s4 : sf_V) (M : sf_M) (sc : Option (List Int)) (Q : Option sf_V → sf_M → Prop) : sf_wp d sc 165 258 [l0, l1, l2, l3] [.inl z, .inl x, s2, s3, s4] M Q = sf_wp d sc 165 259 [l0, l1, l2, l3] [.inl (sf_w (x + z)), s2, s3, s4] M Q := sf_q rfl rfl
set_option maxRecDepth 100000 in
theorem q165_259 (d : Nat) (x : Int) (l0 l1 l2 l3 : Option sf_V) (s2 s3 : sf_V) (M : sf_M) (xs : List Int) (Q : Option sf_V → sf_M → Prop) : sf_wp d (some xs) 165 259 [l0, l1, l2, l3] [.inl x, .inr (.inr (.inr ())), s2, s3] M Q = ((0 ≤ x ∧ x < xs.length) ∧ sf_wp d (some xs) 165 260 [l0, l1, l2, l3] [.inl (xs.getD x.toNat 0), s2, s3] M Q) := sf_qS_ld rfl
set_option maxRecDepth 100000 in
theorem q165_260 (d : Nat) (l1 l2 l3 : Option sf_V) (s0 s1 s2 : sf_V) (M : sf_M) (sc : Option (List Int)) (Q : Option sf_V → sf_M → Prop) : sf_wp d sc 165 260 [some (.inr (.inr (.inr ()))), l1, l2, l3] [s0, s1, s2] M Q = sf_wp d sc 165 261 [some (.inr (.inr (.inr ()))), l1, l2, l3] [.inr (.inr (.inr ())), s0, s1, s2] M Q := sf_q rfl rfl
set_option maxRecDepth 100000 in
theorem q165_261 (d : Nat) (x : Int) (l0 l1 l2 : Option sf_V) (s0 s1 s2 s3 : sf_V) (M : sf_M) (sc : Option (List Int)) (Q : Option sf_V → sf_M → Prop) : sf_wp d sc 165 261 [l0, l1, l2, some (.inl x)] [s0, s1, s2, s3] M Q = sf_wp d sc 165 262 [l0, l1, l2, some (.inl x)] [.inl x, s0, s1, s2, s3] M Q := sf_q rfl rfl
set_option maxRecDepth 100000 in
theorem q165_262 (d : Nat) (l0 l1 l2 l3 : Option sf_V) (s0 s1 s2 s3 s4 : sf_V) (M : sf_M) (sc : Option (List Int)) (Q : Option sf_V → sf_M → Prop) : sf_wp d sc 165 262 [l0, l1, l2, l3] [s0, s1, s2, s3, s4] M Q = sf_wp d sc 165 263 [l0, l1, l2, l3] [.inl 2, s0, s1, s2, s3, s4] M Q := sf_q rfl rfl
set_option maxRecDepth 100000 in
theorem q165_263 (d : Nat) (z : Int) (x : Int) (l0 l1 l2 l3 : Option sf_V) (s2 s3 s4 s5 : sf_V) (M : sf_M) (sc : Option (List Int)) (Q : Option sf_V → sf_M → Prop) : sf_wp d sc 165 263 [l0, l1, l2, l3] [.inl z, .inl x, s2, s3, s4, s5] M Q = sf_wp d sc 165 264 [l0, l1, l2, l3] [.inl (sf_w (x + z)), s2, s3, s4, s5] M Q := sf_q rfl rfl
set_option maxRecDepth 100000 in
theorem q165_264 (d : Nat) (x : Int) (l0 l1 l2 l3 : Option sf_V) (s2 s3 s4 : sf_V) (M : sf_M) (xs : List Int) (Q : Option sf_V → sf_M → Prop) : sf_wp d (some xs) 165 264 [l0, l1, l2, l3] [.inl x, .inr (.inr (.inr ())), s2, s3, s4] M Q = ((0 ≤ x ∧ x < xs.length) ∧ sf_wp d (some xs) 165 265 [l0, l1, l2, l3] [.inl (xs.getD x.toNat 0), s2, s3, s4] M Q) := sf_qS_ld rfl
set_option maxRecDepth 100000 in
theorem q165_265 (d : Nat) (a2 : Int) (a1 : Int) (a0 : Nat) (l0 l1 l2 l3 : Option sf_V) (s3 : sf_V) (V : sf_MV) (sc : Option (List Int)) (Q : Option sf_V → sf_M → Prop) (h : sf_cls a0 = 12) : sf_wp (d + 1) sc 165 265 [l0, l1, l2, l3] [.inl a2, .inl a1, .inr (.inl (some a0)), s3] (sf_E V) Q = sf_wp d none 120 0 [some (.inr (.inl (some a0))), some (.inl a1), some (.inl a2)] [] (sf_E V) (fun r M1 => sf_wp (d + 1) sc 165 268 [l0, l1, l2, l3] (r.toList ++ [s3]) M1 Q) := sf_qV h rfl (by decide) ⟨⟨Nat.le_of_ble_eq_true rfl, Nat.le_of_ble_eq_true rfl, Nat.le_of_ble_eq_true rfl⟩, rfl⟩ rfl rfl rfl
set_option maxRecDepth 100000 in
theorem q165_268 (d : Nat) (z : Int) (x : Int) (l0 l1 l2 l3 : Option sf_V) (M : sf_M) (sc : Option (List Int)) (Q : Option sf_V → sf_M → Prop) : sf_wp d sc 165 268 [l0, l1, l2, l3] [.inl z, .inl x] M Q = if x = z then sf_wp d sc 165 968 [l0, l1, l2, l3] [] M Q else sf_wp d sc 165 271 [l0, l1, l2, l3] [] M Q := sf_qic_eq rfl
set_option maxRecDepth 100000 in
theorem q165_271 (d : Nat) (l0 l1 l2 l3 : Option sf_V) (M : sf_M) (sc : Option (List Int)) (Q : Option sf_V → sf_M → Prop) : sf_wp d sc 165 271 [l0, l1, l2, l3] [] M Q = sf_wp d sc 165 272 [l0, l1, l2, l3] [.inl 0] M Q := sf_q rfl rfl
set_option maxRecDepth 100000 in
theorem q165_272 (d : Nat) (x : Int) (l0 l1 l2 l3 : Option sf_V) (M : sf_M) (sc : Option (List Int)) (Q : Option sf_V → sf_M → Prop) : sf_wp d sc 165 272 [l0, l1, l2, l3] [.inl x] M Q = ((x = 0 ∨ x = 1) ∧ Q (some (.inl x)) M) := sf_qRz rfl
set_option maxRecDepth 100000 in
theorem q165_273 (d : Nat) (x : Nat) (l0 l2 l3 : Option sf_V) (M : sf_M) (sc : Option (List Int)) (Q : Option sf_V → sf_M → Prop) : sf_wp d sc 165 273 [l0, some (.inr (.inl (some x))), l2, l3] [] M Q = sf_wp d sc 165 274 [l0, some (.inr (.inl (some x))), l2, l3] [.inr (.inl (some x))] M Q := sf_q rfl rfl
set_option maxRecDepth 100000 in
theorem q165_274 (d : Nat) (l1 l2 l3 : Option sf_V) (s0 : sf_V) (M : sf_M) (sc : Option (List Int)) (Q : Option sf_V → sf_M → Prop) : sf_wp d sc 165 274 [some (.inr (.inr (.inr ()))), l1, l2, l3] [s0] M Q = sf_wp d sc 165 275 [some (.inr (.inr (.inr ()))), l1, l2, l3] [.inr (.inr (.inr ())), s0] M Q := sf_q rfl rfl
set_option maxRecDepth 100000 in
theorem q165_275 (d : Nat) (x : Int) (l0 l1 l2 : Option sf_V) (s0 s1 : sf_V) (M : sf_M) (sc : Option (List Int)) (Q : Option sf_V → sf_M → Prop) : sf_wp d sc 165 275 [l0, l1, l2, some (.inl x)] [s0, s1] M Q = sf_wp d sc 165 276 [l0, l1, l2, some (.inl x)] [.inl x, s0, s1] M Q := sf_q rfl rfl
set_option maxRecDepth 100000 in
theorem q165_276 (d : Nat) (l0 l1 l2 l3 : Option sf_V) (s0 s1 s2 : sf_V) (M : sf_M) (sc : Option (List Int)) (Q : Option sf_V → sf_M → Prop) : sf_wp d sc 165 276 [l0, l1, l2, l3] [s0, s1, s2] M Q = sf_wp d sc 165 277 [l0, l1, l2, l3] [.inl 1, s0, s1, s2] M Q := sf_q rfl rfl
set_option maxRecDepth 100000 in
theorem q165_277 (d : Nat) (z : Int) (x : Int) (l0 l1 l2 l3 : Option sf_V) (s2 s3 : sf_V) (M : sf_M) (sc : Option (List Int)) (Q : Option sf_V → sf_M → Prop) : sf_wp d sc 165 277 [l0, l1, l2, l3] [.inl z, .inl x, s2, s3] M Q = sf_wp d sc 165 278 [l0, l1, l2, l3] [.inl (sf_w (x + z)), s2, s3] M Q := sf_q rfl rfl
set_option maxRecDepth 100000 in
theorem q165_278 (d : Nat) (x : Int) (l0 l1 l2 l3 : Option sf_V) (s2 : sf_V) (M : sf_M) (xs : List Int) (Q : Option sf_V → sf_M → Prop) : sf_wp d (some xs) 165 278 [l0, l1, l2, l3] [.inl x, .inr (.inr (.inr ())), s2] M Q = ((0 ≤ x ∧ x < xs.length) ∧ sf_wp d (some xs) 165 279 [l0, l1, l2, l3] [.inl (xs.getD x.toNat 0), s2] M Q) := sf_qS_ld rfl
set_option maxRecDepth 100000 in
theorem q165_279 (d : Nat) (l1 l2 l3 : Option sf_V) (s0 s1 : sf_V) (M : sf_M) (sc : Option (List Int)) (Q : Option sf_V → sf_M → Prop) : sf_wp d sc 165 279 [some (.inr (.inr (.inr ()))), l1, l2, l3] [s0, s1] M Q = sf_wp d sc 165 280 [some (.inr (.inr (.inr ()))), l1, l2, l3] [.inr (.inr (.inr ())), s0, s1] M Q := sf_q rfl rfl
set_option maxRecDepth 100000 in
theorem q165_280 (d : Nat) (x : Int) (l0 l1 l2 : Option sf_V) (s0 s1 s2 : sf_V) (M : sf_M) (sc : Option (List Int)) (Q : Option sf_V → sf_M → Prop) : sf_wp d sc 165 280 [l0, l1, l2, some (.inl x)] [s0, s1, s2] M Q = sf_wp d sc 165 281 [l0, l1, l2, some (.inl x)] [.inl x, s0, s1, s2] M Q := sf_q rfl rfl
set_option maxRecDepth 100000 in
theorem q165_281 (d : Nat) (l0 l1 l2 l3 : Option sf_V) (s0 s1 s2 s3 : sf_V) (M : sf_M) (sc : Option (List Int)) (Q : Option sf_V → sf_M → Prop) : sf_wp d sc 165 281 [l0, l1, l2, l3] [s0, s1, s2, s3] M Q = sf_wp d sc 165 282 [l0, l1, l2, l3] [.inl 2, s0, s1, s2, s3] M Q := sf_q rfl rfl
set_option maxRecDepth 100000 in
theorem q165_282 (d : Nat) (z : Int) (x : Int) (l0 l1 l2 l3 : Option sf_V) (s2 s3 s4 : sf_V) (M : sf_M) (sc : Option (List Int)) (Q : Option sf_V → sf_M → Prop) : sf_wp d sc 165 282 [l0, l1, l2, l3] [.inl z, .inl x, s2, s3, s4] M Q = sf_wp d sc 165 283 [l0, l1, l2, l3] [.inl (sf_w (x + z)), s2, s3, s4] M Q := sf_q rfl rfl
set_option maxRecDepth 100000 in
theorem q165_283 (d : Nat) (x : Int) (l0 l1 l2 l3 : Option sf_V) (s2 s3 : sf_V) (M : sf_M) (xs : List Int) (Q : Option sf_V → sf_M → Prop) : sf_wp d (some xs) 165 283 [l0, l1, l2, l3] [.inl x, .inr (.inr (.inr ())), s2, s3] M Q = ((0 ≤ x ∧ x < xs.length) ∧ sf_wp d (some xs) 165 284 [l0, l1, l2, l3] [.inl (xs.getD x.toNat 0), s2, s3] M Q) := sf_qS_ld rfl
set_option maxRecDepth 100000 in
theorem q165_284 (d : Nat) (a2 : Int) (a1 : Int) (a0 : Nat) (l0 l1 l2 l3 : Option sf_V) (V : sf_MV) (sc : Option (List Int)) (Q : Option sf_V → sf_M → Prop) (h : sf_cls a0 = 11) : sf_wp (d + 1) sc 165 284 [l0, l1, l2, l3] [.inl a2, .inl a1, .inr (.inl (some a0))] (sf_E V) Q = sf_wp d none 65 0 [some (.inr (.inl (some a0))), some (.inl a1), some (.inl a2)] [] (sf_E V) (fun r M1 => sf_wp (d + 1) sc 165 287 [l0, l1, l2, l3] (r.toList ++ []) M1 Q) := sf_qV h rfl (by decide) ⟨⟨Nat.le_of_ble_eq_true rfl, Nat.le_of_ble_eq_true rfl, Nat.le_of_ble_eq_true rfl⟩, rfl⟩ rfl rfl rfl
set_option maxRecDepth 100000 in
theorem q165_287 (d : Nat) (x : Nat) (l0 l1 l3 : Option sf_V) (s0 : sf_V) (M : sf_M) (sc : Option (List Int)) (Q : Option sf_V → sf_M → Prop) : sf_wp d sc 165 287 [l0, l1, some (.inr (.inl (some x))), l3] [s0] M Q = sf_wp d sc 165 288 [l0, l1, some (.inr (.inl (some x))), l3] [.inr (.inl (some x)), s0] M Q := sf_q rfl rfl
set_option maxRecDepth 100000 in
theorem q165_288 (d : Nat) (l1 l2 l3 : Option sf_V) (s0 s1 : sf_V) (M : sf_M) (sc : Option (List Int)) (Q : Option sf_V → sf_M → Prop) : sf_wp d sc 165 288 [some (.inr (.inr (.inr ()))), l1, l2, l3] [s0, s1] M Q = sf_wp d sc 165 289 [some (.inr (.inr (.inr ()))), l1, l2, l3] [.inr (.inr (.inr ())), s0, s1] M Q := sf_q rfl rfl
set_option maxRecDepth 100000 in
theorem q165_289 (d : Nat) (x : Int) (l0 l1 l2 : Option sf_V) (s0 s1 s2 : sf_V) (M : sf_M) (sc : Option (List Int)) (Q : Option sf_V → sf_M → Prop) : sf_wp d sc 165 289 [l0, l1, l2, some (.inl x)] [s0, s1, s2] M Q = sf_wp d sc 165 290 [l0, l1, l2, some (.inl x)] [.inl x, s0, s1, s2] M Q := sf_q rfl rfl
set_option maxRecDepth 100000 in
theorem q165_290 (d : Nat) (l0 l1 l2 l3 : Option sf_V) (s0 s1 s2 s3 : sf_V) (M : sf_M) (sc : Option (List Int)) (Q : Option sf_V → sf_M → Prop) : sf_wp d sc 165 290 [l0, l1, l2, l3] [s0, s1, s2, s3] M Q = sf_wp d sc 165 291 [l0, l1, l2, l3] [.inl 1, s0, s1, s2, s3] M Q := sf_q rfl rfl
set_option maxRecDepth 100000 in
theorem q165_291 (d : Nat) (z : Int) (x : Int) (l0 l1 l2 l3 : Option sf_V) (s2 s3 s4 : sf_V) (M : sf_M) (sc : Option (List Int)) (Q : Option sf_V → sf_M → Prop) : sf_wp d sc 165 291 [l0, l1, l2, l3] [.inl z, .inl x, s2, s3, s4] M Q = sf_wp d sc 165 292 [l0, l1, l2, l3] [.inl (sf_w (x + z)), s2, s3, s4] M Q := sf_q rfl rfl
set_option maxRecDepth 100000 in
theorem q165_292 (d : Nat) (x : Int) (l0 l1 l2 l3 : Option sf_V) (s2 s3 : sf_V) (M : sf_M) (xs : List Int) (Q : Option sf_V → sf_M → Prop) : sf_wp d (some xs) 165 292 [l0, l1, l2, l3] [.inl x, .inr (.inr (.inr ())), s2, s3] M Q = ((0 ≤ x ∧ x < xs.length) ∧ sf_wp d (some xs) 165 293 [l0, l1, l2, l3] [.inl (xs.getD x.toNat 0), s2, s3] M Q) := sf_qS_ld rfl
set_option maxRecDepth 100000 in
theorem q165_293 (d : Nat) (l1 l2 l3 : Option sf_V) (s0 s1 s2 : sf_V) (M : sf_M) (sc : Option (List Int)) (Q : Option sf_V → sf_M → Prop) : sf_wp d sc 165 293 [some (.inr (.inr (.inr ()))), l1, l2, l3] [s0, s1, s2] M Q = sf_wp d sc 165 294 [some (.inr (.inr (.inr ()))), l1, l2, l3] [.inr (.inr (.inr ())), s0, s1, s2] M Q := sf_q rfl rfl
set_option maxRecDepth 100000 in
theorem q165_294 (d : Nat) (x : Int) (l0 l1 l2 : Option sf_V) (s0 s1 s2 s3 : sf_V) (M : sf_M) (sc : Option (List Int)) (Q : Option sf_V → sf_M → Prop) : sf_wp d sc 165 294 [l0, l1, l2, some (.inl x)] [s0, s1, s2, s3] M Q = sf_wp d sc 165 295 [l0, l1, l2, some (.inl x)] [.inl x, s0, s1, s2, s3] M Q := sf_q rfl rfl
set_option maxRecDepth 100000 in
theorem q165_295 (d : Nat) (l0 l1 l2 l3 : Option sf_V) (s0 s1 s2 s3 s4 : sf_V) (M : sf_M) (sc : Option (List Int)) (Q : Option sf_V → sf_M → Prop) : sf_wp d sc 165 295 [l0, l1, l2, l3] [s0, s1, s2, s3, s4] M Q = sf_wp d sc 165 296 [l0, l1, l2, l3] [.inl 2, s0, s1, s2, s3, s4] M Q := sf_q rfl rfl
set_option maxRecDepth 100000 in
theorem q165_296 (d : Nat) (z : Int) (x : Int) (l0 l1 l2 l3 : Option sf_V) (s2 s3 s4 s5 : sf_V) (M : sf_M) (sc : Option (List Int)) (Q : Option sf_V → sf_M → Prop) : sf_wp d sc 165 296 [l0, l1, l2, l3] [.inl z, .inl x, s2, s3, s4, s5] M Q = sf_wp d sc 165 297 [l0, l1, l2, l3] [.inl (sf_w (x + z)), s2, s3, s4, s5] M Q := sf_q rfl rfl
set_option maxRecDepth 100000 in
theorem q165_297 (d : Nat) (x : Int) (l0 l1 l2 l3 : Option sf_V) (s2 s3 s4 : sf_V) (M : sf_M) (xs : List Int) (Q : Option sf_V → sf_M → Prop) : sf_wp d (some xs) 165 297 [l0, l1, l2, l3] [.inl x, .inr (.inr (.inr ())), s2, s3, s4] M Q = ((0 ≤ x ∧ x < xs.length) ∧ sf_wp d (some xs) 165 298 [l0, l1, l2, l3] [.inl (xs.getD x.toNat 0), s2, s3, s4] M Q) := sf_qS_ld rfl
set_option maxRecDepth 100000 in
theorem q165_298 (d : Nat) (a2 : Int) (a1 : Int) (a0 : Nat) (l0 l1 l2 l3 : Option sf_V) (s3 : sf_V) (V : sf_MV) (sc : Option (List Int)) (Q : Option sf_V → sf_M → Prop) (h : sf_cls a0 = 12) : sf_wp (d + 1) sc 165 298 [l0, l1, l2, l3] [.inl a2, .inl a1, .inr (.inl (some a0)), s3] (sf_E V) Q = sf_wp d none 121 0 [some (.inr (.inl (some a0))), some (.inl a1), some (.inl a2)] [] (sf_E V) (fun r M1 => sf_wp (d + 1) sc 165 301 [l0, l1, l2, l3] (r.toList ++ [s3]) M1 Q) := sf_qV h rfl (by decide) ⟨⟨Nat.le_of_ble_eq_true rfl, Nat.le_of_ble_eq_true rfl, Nat.le_of_ble_eq_true rfl⟩, rfl⟩ rfl rfl rfl
set_option maxRecDepth 100000 in
theorem q165_301 (d : Nat) (z : Int) (x : Int) (l0 l1 l2 l3 : Option sf_V) (M : sf_M) (sc : Option (List Int)) (Q : Option sf_V → sf_M → Prop) : sf_wp d sc 165 301 [l0, l1, l2, l3] [.inl z, .inl x] M Q = if x = z then sf_wp d sc 165 968 [l0, l1, l2, l3] [] M Q else sf_wp d sc 165 304 [l0, l1, l2, l3] [] M Q := sf_qic_eq rfl
set_option maxRecDepth 100000 in
theorem q165_304 (d : Nat) (l0 l1 l2 l3 : Option sf_V) (M : sf_M) (sc : Option (List Int)) (Q : Option sf_V → sf_M → Prop) : sf_wp d sc 165 304 [l0, l1, l2, l3] [] M Q = sf_wp d sc 165 305 [l0, l1, l2, l3] [.inl 0] M Q := sf_q rfl rfl
set_option maxRecDepth 100000 in
theorem q165_305 (d : Nat) (x : Int) (l0 l1 l2 l3 : Option sf_V) (M : sf_M) (sc : Option (List Int)) (Q : Option sf_V → sf_M → Prop) : sf_wp d sc 165 305 [l0, l1, l2, l3] [.inl x] M Q = ((x = 0 ∨ x = 1) ∧ Q (some (.inl x)) M) := sf_qRz rfl
set_option maxRecDepth 100000 in
theorem q165_306 (d : Nat) (x : Nat) (l0 l2 l3 : Option sf_V) (M : sf_M) (sc : Option (List Int)) (Q : Option sf_V → sf_M → Prop) : sf_wp d sc 165 306 [l0, some (.inr (.inl (some x))), l2, l3] [] M Q = sf_wp d sc 165 307 [l0, some (.inr (.inl (some x))), l2, l3] [.inr (.inl (some x))] M Q := sf_q rfl rfl
set_option maxRecDepth 100000 in
theorem q165_307 (d : Nat) (l1 l2 l3 : Option sf_V) (s0 : sf_V) (M : sf_M) (sc : Option (List Int)) (Q : Option sf_V → sf_M → Prop) : sf_wp d sc 165 307 [some (.inr (.inr (.inr ()))), l1, l2, l3] [s0] M Q = sf_wp d sc 165 308 [some (.inr (.inr (.inr ()))), l1, l2, l3] [.inr (.inr (.inr ())), s0] M Q := sf_q rfl rfl
set_option maxRecDepth 100000 in
theorem q165_308 (d : Nat) (x : Int) (l0 l1 l2 : Option sf_V) (s0 s1 : sf_V) (M : sf_M) (sc : Option (List Int)) (Q : Option sf_V → sf_M → Prop) : sf_wp d sc 165 308 [l0, l1, l2, some (.inl x)] [s0, s1] M Q = sf_wp d sc 165 309 [l0, l1, l2, some (.inl x)] [.inl x, s0, s1] M Q := sf_q rfl rfl
set_option maxRecDepth 100000 in
theorem q165_309 (d : Nat) (l0 l1 l2 l3 : Option sf_V) (s0 s1 s2 : sf_V) (M : sf_M) (sc : Option (List Int)) (Q : Option sf_V → sf_M → Prop) : sf_wp d sc 165 309 [l0, l1, l2, l3] [s0, s1, s2] M Q = sf_wp d sc 165 310 [l0, l1, l2, l3] [.inl 1, s0, s1, s2] M Q := sf_q rfl rfl
set_option maxRecDepth 100000 in
theorem q165_310 (d : Nat) (z : Int) (x : Int) (l0 l1 l2 l3 : Option sf_V) (s2 s3 : sf_V) (M : sf_M) (sc : Option (List Int)) (Q : Option sf_V → sf_M → Prop) : sf_wp d sc 165 310 [l0, l1, l2, l3] [.inl z, .inl x, s2, s3] M Q = sf_wp d sc 165 311 [l0, l1, l2, l3] [.inl (sf_w (x + z)), s2, s3] M Q := sf_q rfl rfl
set_option maxRecDepth 100000 in
theorem q165_311 (d : Nat) (x : Int) (l0 l1 l2 l3 : Option sf_V) (s2 : sf_V) (M : sf_M) (xs : List Int) (Q : Option sf_V → sf_M → Prop) : sf_wp d (some xs) 165 311 [l0, l1, l2, l3] [.inl x, .inr (.inr (.inr ())), s2] M Q = ((0 ≤ x ∧ x < xs.length) ∧ sf_wp d (some xs) 165 312 [l0, l1, l2, l3] [.inl (xs.getD x.toNat 0), s2] M Q) := sf_qS_ld rfl
set_option maxRecDepth 100000 in
theorem q165_312 (d : Nat) (l1 l2 l3 : Option sf_V) (s0 s1 : sf_V) (M : sf_M) (sc : Option (List Int)) (Q : Option sf_V → sf_M → Prop) : sf_wp d sc 165 312 [some (.inr (.inr (.inr ()))), l1, l2, l3] [s0, s1] M Q = sf_wp d sc 165 313 [some (.inr (.inr (.inr ()))), l1, l2, l3] [.inr (.inr (.inr ())), s0, s1] M Q := sf_q rfl rfl
set_option maxRecDepth 100000 in
theorem q165_313 (d : Nat) (x : Int) (l0 l1 l2 : Option sf_V) (s0 s1 s2 : sf_V) (M : sf_M) (sc : Option (List Int)) (Q : Option sf_V → sf_M → Prop) : sf_wp d sc 165 313 [l0, l1, l2, some (.inl x)] [s0, s1, s2] M Q = sf_wp d sc 165 314 [l0, l1, l2, some (.inl x)] [.inl x, s0, s1, s2] M Q := sf_q rfl rfl
set_option maxRecDepth 100000 in
theorem q165_314 (d : Nat) (l0 l1 l2 l3 : Option sf_V) (s0 s1 s2 s3 : sf_V) (M : sf_M) (sc : Option (List Int)) (Q : Option sf_V → sf_M → Prop) : sf_wp d sc 165 314 [l0, l1, l2, l3] [s0, s1, s2, s3] M Q = sf_wp d sc 165 315 [l0, l1, l2, l3] [.inl 2, s0, s1, s2, s3] M Q := sf_q rfl rfl
set_option maxRecDepth 100000 in
theorem q165_315 (d : Nat) (z : Int) (x : Int) (l0 l1 l2 l3 : Option sf_V) (s2 s3 s4 : sf_V) (M : sf_M) (sc : Option (List Int)) (Q : Option sf_V → sf_M → Prop) : sf_wp d sc 165 315 [l0, l1, l2, l3] [.inl z, .inl x, s2, s3, s4] M Q = sf_wp d sc 165 316 [l0, l1, l2, l3] [.inl (sf_w (x + z)), s2, s3, s4] M Q := sf_q rfl rfl
set_option maxRecDepth 100000 in
theorem q165_316 (d : Nat) (x : Int) (l0 l1 l2 l3 : Option sf_V) (s2 s3 : sf_V) (M : sf_M) (xs : List Int) (Q : Option sf_V → sf_M → Prop) : sf_wp d (some xs) 165 316 [l0, l1, l2, l3] [.inl x, .inr (.inr (.inr ())), s2, s3] M Q = ((0 ≤ x ∧ x < xs.length) ∧ sf_wp d (some xs) 165 317 [l0, l1, l2, l3] [.inl (xs.getD x.toNat 0), s2, s3] M Q) := sf_qS_ld rfl
set_option maxRecDepth 100000 in
theorem q165_317 (d : Nat) (a2 : Int) (a1 : Int) (a0 : Nat) (l0 l1 l2 l3 : Option sf_V) (V : sf_MV) (sc : Option (List Int)) (Q : Option sf_V → sf_M → Prop) (h : sf_cls a0 = 11) : sf_wp (d + 1) sc 165 317 [l0, l1, l2, l3] [.inl a2, .inl a1, .inr (.inl (some a0))] (sf_E V) Q = sf_wp d none 66 0 [some (.inr (.inl (some a0))), some (.inl a1), some (.inl a2)] [] (sf_E V) (fun r M1 => sf_wp (d + 1) sc 165 320 [l0, l1, l2, l3] (r.toList ++ []) M1 Q) := sf_qV h rfl (by decide) ⟨⟨Nat.le_of_ble_eq_true rfl, Nat.le_of_ble_eq_true rfl, Nat.le_of_ble_eq_true rfl⟩, rfl⟩ rfl rfl rfl
set_option maxRecDepth 100000 in
theorem q165_320 (d : Nat) (x : Nat) (l0 l1 l3 : Option sf_V) (s0 : sf_V) (M : sf_M) (sc : Option (List Int)) (Q : Option sf_V → sf_M → Prop) : sf_wp d sc 165 320 [l0, l1, some (.inr (.inl (some x))), l3] [s0] M Q = sf_wp d sc 165 321 [l0, l1, some (.inr (.inl (some x))), l3] [.inr (.inl (some x)), s0] M Q := sf_q rfl rfl
set_option maxRecDepth 100000 in
theorem q165_321 (d : Nat) (l1 l2 l3 : Option sf_V) (s0 s1 : sf_V) (M : sf_M) (sc : Option (List Int)) (Q : Option sf_V → sf_M → Prop) : sf_wp d sc 165 321 [some (.inr (.inr (.inr ()))), l1, l2, l3] [s0, s1] M Q = sf_wp d sc 165 322 [some (.inr (.inr (.inr ()))), l1, l2, l3] [.inr (.inr (.inr ())), s0, s1] M Q := sf_q rfl rfl
set_option maxRecDepth 100000 in
theorem q165_322 (d : Nat) (x : Int) (l0 l1 l2 : Option sf_V) (s0 s1 s2 : sf_V) (M : sf_M) (sc : Option (List Int)) (Q : Option sf_V → sf_M → Prop) : sf_wp d sc 165 322 [l0, l1, l2, some (.inl x)] [s0, s1, s2] M Q = sf_wp d sc 165 323 [l0, l1, l2, some (.inl x)] [.inl x, s0, s1, s2] M Q := sf_q rfl rfl
set_option maxRecDepth 100000 in
theorem q165_323 (d : Nat) (l0 l1 l2 l3 : Option sf_V) (s0 s1 s2 s3 : sf_V) (M : sf_M) (sc : Option (List Int)) (Q : Option sf_V → sf_M → Prop) : sf_wp d sc 165 323 [l0, l1, l2, l3] [s0, s1, s2, s3] M Q = sf_wp d sc 165 324 [l0, l1, l2, l3] [.inl 1, s0, s1, s2, s3] M Q := sf_q rfl rfl
set_option maxRecDepth 100000 in
theorem q165_324 (d : Nat) (z : Int) (x : Int) (l0 l1 l2 l3 : Option sf_V) (s2 s3 s4 : sf_V) (M : sf_M) (sc : Option (List Int)) (Q : Option sf_V → sf_M → Prop) : sf_wp d sc 165 324 [l0, l1, l2, l3] [.inl z, .inl x, s2, s3, s4] M Q = sf_wp d sc 165 325 [l0, l1, l2, l3] [.inl (sf_w (x + z)), s2, s3, s4] M Q := sf_q rfl rfl
set_option maxRecDepth 100000 in
theorem q165_325 (d : Nat) (x : Int) (l0 l1 l2 l3 : Option sf_V) (s2 s3 : sf_V) (M : sf_M) (xs : List Int) (Q : Option sf_V → sf_M → Prop) : sf_wp d (some xs) 165 325 [l0, l1, l2, l3] [.inl x, .inr (.inr (.inr ())), s2, s3] M Q = ((0 ≤ x ∧ x < xs.length) ∧ sf_wp d (some xs) 165 326 [l0, l1, l2, l3] [.inl (xs.getD x.toNat 0), s2, s3] M Q) := sf_qS_ld rfl
set_option maxRecDepth 100000 in
theorem q165_326 (d : Nat) (l1 l2 l3 : Option sf_V) (s0 s1 s2 : sf_V) (M : sf_M) (sc : Option (List Int)) (Q : Option sf_V → sf_M → Prop) : sf_wp d sc 165 326 [some (.inr (.inr (.inr ()))), l1, l2, l3] [s0, s1, s2] M Q = sf_wp d sc 165 327 [some (.inr (.inr (.inr ()))), l1, l2, l3] [.inr (.inr (.inr ())), s0, s1, s2] M Q := sf_q rfl rfl
set_option maxRecDepth 100000 in
theorem q165_327 (d : Nat) (x : Int) (l0 l1 l2 : Option sf_V) (s0 s1 s2 s3 : sf_V) (M : sf_M) (sc : Option (List Int)) (Q : Option sf_V → sf_M → Prop) : sf_wp d sc 165 327 [l0, l1, l2, some (.inl x)] [s0, s1, s2, s3] M Q = sf_wp d sc 165 328 [l0, l1, l2, some (.inl x)] [.inl x, s0, s1, s2, s3] M Q := sf_q rfl rfl
set_option maxRecDepth 100000 in
theorem q165_328 (d : Nat) (l0 l1 l2 l3 : Option sf_V) (s0 s1 s2 s3 s4 : sf_V) (M : sf_M) (sc : Option (List Int)) (Q : Option sf_V → sf_M → Prop) : sf_wp d sc 165 328 [l0, l1, l2, l3] [s0, s1, s2, s3, s4] M Q = sf_wp d sc 165 329 [l0, l1, l2, l3] [.inl 2, s0, s1, s2, s3, s4] M Q := sf_q rfl rfl
set_option maxRecDepth 100000 in
theorem q165_329 (d : Nat) (z : Int) (x : Int) (l0 l1 l2 l3 : Option sf_V) (s2 s3 s4 s5 : sf_V) (M : sf_M) (sc : Option (List Int)) (Q : Option sf_V → sf_M → Prop) : sf_wp d sc 165 329 [l0, l1, l2, l3] [.inl z, .inl x, s2, s3, s4, s5] M Q = sf_wp d sc 165 330 [l0, l1, l2, l3] [.inl (sf_w (x + z)), s2, s3, s4, s5] M Q := sf_q rfl rfl
set_option maxRecDepth 100000 in
theorem q165_330 (d : Nat) (x : Int) (l0 l1 l2 l3 : Option sf_V) (s2 s3 s4 : sf_V) (M : sf_M) (xs : List Int) (Q : Option sf_V → sf_M → Prop) : sf_wp d (some xs) 165 330 [l0, l1, l2, l3] [.inl x, .inr (.inr (.inr ())), s2, s3, s4] M Q = ((0 ≤ x ∧ x < xs.length) ∧ sf_wp d (some xs) 165 331 [l0, l1, l2, l3] [.inl (xs.getD x.toNat 0), s2, s3, s4] M Q) := sf_qS_ld rfl
set_option maxRecDepth 100000 in
theorem q165_331 (d : Nat) (a2 : Int) (a1 : Int) (a0 : Nat) (l0 l1 l2 l3 : Option sf_V) (s3 : sf_V) (V : sf_MV) (sc : Option (List Int)) (Q : Option sf_V → sf_M → Prop) (h : sf_cls a0 = 12) : sf_wp (d + 1) sc 165 331 [l0, l1, l2, l3] [.inl a2, .inl a1, .inr (.inl (some a0)), s3] (sf_E V) Q = sf_wp d none 128 0 [some (.inr (.inl (some a0))), some (.inl a1), some (.inl a2)] [] (sf_E V) (fun r M1 => sf_wp (d + 1) sc 165 334 [l0, l1, l2, l3] (r.toList ++ [s3]) M1 Q) := sf_qV h rfl (by decide) ⟨⟨Nat.le_of_ble_eq_true rfl, Nat.le_of_ble_eq_true rfl, Nat.le_of_ble_eq_true rfl⟩, rfl⟩ rfl rfl rfl
set_option maxRecDepth 100000 in
theorem q165_334 (d : Nat) (z : Int) (x : Int) (l0 l1 l2 l3 : Option sf_V) (M : sf_M) (sc : Option (List Int)) (Q : Option sf_V → sf_M → Prop) : sf_wp d sc 165 334 [l0, l1, l2, l3] [.inl z, .inl x] M Q = if x = z then sf_wp d sc 165 968 [l0, l1, l2, l3] [] M Q else sf_wp d sc 165 337 [l0, l1, l2, l3] [] M Q := sf_qic_eq rfl
set_option maxRecDepth 100000 in
theorem q165_337 (d : Nat) (l0 l1 l2 l3 : Option sf_V) (M : sf_M) (sc : Option (List Int)) (Q : Option sf_V → sf_M → Prop) : sf_wp d sc 165 337 [l0, l1, l2, l3] [] M Q = sf_wp d sc 165 338 [l0, l1, l2, l3] [.inl 0] M Q := sf_q rfl rfl
set_option maxRecDepth 100000 in
theorem q165_338 (d : Nat) (x : Int) (l0 l1 l2 l3 : Option sf_V) (M : sf_M) (sc : Option (List Int)) (Q : Option sf_V → sf_M → Prop) : sf_wp d sc 165 338 [l0, l1, l2, l3] [.inl x] M Q = ((x = 0 ∨ x = 1) ∧ Q (some (.inl x)) M) := sf_qRz rfl
set_option maxRecDepth 100000 in
theorem q165_339 (d : Nat) (x : Nat) (l0 l2 l3 : Option sf_V) (M : sf_M) (sc : Option (List Int)) (Q : Option sf_V → sf_M → Prop) : sf_wp d sc 165 339 [l0, some (.inr (.inl (some x))), l2, l3] [] M Q = sf_wp d sc 165 340 [l0, some (.inr (.inl (some x))), l2, l3] [.inr (.inl (some x))] M Q := sf_q rfl rfl
set_option maxRecDepth 100000 in
theorem q165_340 (d : Nat) (l1 l2 l3 : Option sf_V) (s0 : sf_V) (M : sf_M) (sc : Option (List Int)) (Q : Option sf_V → sf_M → Prop) : sf_wp d sc 165 340 [some (.inr (.inr (.inr ()))), l1, l2, l3] [s0] M Q = sf_wp d sc 165 341 [some (.inr (.inr (.inr ()))), l1, l2, l3] [.inr (.inr (.inr ())), s0] M Q := sf_q rfl rfl
set_option maxRecDepth 100000 in
theorem q165_341 (d : Nat) (x : Int) (l0 l1 l2 : Option sf_V) (s0 s1 : sf_V) (M : sf_M) (sc : Option (List Int)) (Q : Option sf_V → sf_M → Prop) : sf_wp d sc 165 341 [l0, l1, l2, some (.inl x)] [s0, s1] M Q = sf_wp d sc 165 342 [l0, l1, l2, some (.inl x)] [.inl x, s0, s1] M Q := sf_q rfl rfl
set_option maxRecDepth 100000 in
theorem q165_342 (d : Nat) (l0 l1 l2 l3 : Option sf_V) (s0 s1 s2 : sf_V) (M : sf_M) (sc : Option (List Int)) (Q : Option sf_V → sf_M → Prop) : sf_wp d sc 165 342 [l0, l1, l2, l3] [s0, s1, s2] M Q = sf_wp d sc 165 343 [l0, l1, l2, l3] [.inl 1, s0, s1, s2] M Q := sf_q rfl rfl
set_option maxRecDepth 100000 in
theorem q165_343 (d : Nat) (z : Int) (x : Int) (l0 l1 l2 l3 : Option sf_V) (s2 s3 : sf_V) (M : sf_M) (sc : Option (List Int)) (Q : Option sf_V → sf_M → Prop) : sf_wp d sc 165 343 [l0, l1, l2, l3] [.inl z, .inl x, s2, s3] M Q = sf_wp d sc 165 344 [l0, l1, l2, l3] [.inl (sf_w (x + z)), s2, s3] M Q := sf_q rfl rfl
set_option maxRecDepth 100000 in
theorem q165_344 (d : Nat) (x : Int) (l0 l1 l2 l3 : Option sf_V) (s2 : sf_V) (M : sf_M) (xs : List Int) (Q : Option sf_V → sf_M → Prop) : sf_wp d (some xs) 165 344 [l0, l1, l2, l3] [.inl x, .inr (.inr (.inr ())), s2] M Q = ((0 ≤ x ∧ x < xs.length) ∧ sf_wp d (some xs) 165 345 [l0, l1, l2, l3] [.inl (xs.getD x.toNat 0), s2] M Q) := sf_qS_ld rfl
set_option maxRecDepth 100000 in
theorem q165_345 (d : Nat) (a1 : Int) (a0 : Nat) (l0 l1 l2 l3 : Option sf_V) (V : sf_MV) (sc : Option (List Int)) (Q : Option sf_V → sf_M → Prop) (h : sf_cls a0 = 11) : sf_wp (d + 1) sc 165 345 [l0, l1, l2, l3] [.inl a1, .inr (.inl (some a0))] (sf_E V) Q = sf_wp d none 67 0 [some (.inr (.inl (some a0))), some (.inl a1), none, none] [] (sf_E V) (fun r M1 => sf_wp (d + 1) sc 165 348 [l0, l1, l2, l3] (r.toList ++ []) M1 Q) := sf_qV h rfl (by decide) ⟨⟨Nat.le_of_ble_eq_true rfl, Nat.le_of_ble_eq_true rfl, Nat.le_of_ble_eq_true rfl⟩, rfl⟩ rfl rfl rfl
set_option maxRecDepth 100000 in
theorem q165_348 (d : Nat) (x : Nat) (l0 l1 l3 : Option sf_V) (s0 : sf_V) (M : sf_M) (sc : Option (List Int)) (Q : Option sf_V → sf_M → Prop) : sf_wp d sc 165 348 [l0, l1, some (.inr (.inl (some x))), l3] [s0] M Q = sf_wp d sc 165 349 [l0, l1, some (.inr (.inl (some x))), l3] [.inr (.inl (some x)), s0] M Q := sf_q rfl rfl
set_option maxRecDepth 100000 in
theorem q165_349 (d : Nat) (l1 l2 l3 : Option sf_V) (s0 s1 : sf_V) (M : sf_M) (sc : Option (List Int)) (Q : Option sf_V → sf_M → Prop) : sf_wp d sc 165 349 [some (.inr (.inr (.inr ()))), l1, l2, l3] [s0, s1] M Q = sf_wp d sc 165 350 [some (.inr (.inr (.inr ()))), l1, l2, l3] [.inr (.inr (.inr ())), s0, s1] M Q := sf_q rfl rfl
set_option maxRecDepth 100000 in
theorem q165_350 (d : Nat) (x : Int) (l0 l1 l2 : Option sf_V) (s0 s1 s2 : sf_V) (M : sf_M) (sc : Option (List Int)) (Q : Option sf_V → sf_M → Prop) : sf_wp d sc 165 350 [l0, l1, l2, some (.inl x)] [s0, s1, s2] M Q = sf_wp d sc 165 351 [l0, l1, l2, some (.inl x)] [.inl x, s0, s1, s2] M Q := sf_q rfl rfl
set_option maxRecDepth 100000 in
theorem q165_351 (d : Nat) (l0 l1 l2 l3 : Option sf_V) (s0 s1 s2 s3 : sf_V) (M : sf_M) (sc : Option (List Int)) (Q : Option sf_V → sf_M → Prop) : sf_wp d sc 165 351 [l0, l1, l2, l3] [s0, s1, s2, s3] M Q = sf_wp d sc 165 352 [l0, l1, l2, l3] [.inl 1, s0, s1, s2, s3] M Q := sf_q rfl rfl
set_option maxRecDepth 100000 in
theorem q165_352 (d : Nat) (z : Int) (x : Int) (l0 l1 l2 l3 : Option sf_V) (s2 s3 s4 : sf_V) (M : sf_M) (sc : Option (List Int)) (Q : Option sf_V → sf_M → Prop) : sf_wp d sc 165 352 [l0, l1, l2, l3] [.inl z, .inl x, s2, s3, s4] M Q = sf_wp d sc 165 353 [l0, l1, l2, l3] [.inl (sf_w (x + z)), s2, s3, s4] M Q := sf_q rfl rfl
set_option maxRecDepth 100000 in
theorem q165_353 (d : Nat) (x : Int) (l0 l1 l2 l3 : Option sf_V) (s2 s3 : sf_V) (M : sf_M) (xs : List Int) (Q : Option sf_V → sf_M → Prop) : sf_wp d (some xs) 165 353 [l0, l1, l2, l3] [.inl x, .inr (.inr (.inr ())), s2, s3] M Q = ((0 ≤ x ∧ x < xs.length) ∧ sf_wp d (some xs) 165 354 [l0, l1, l2, l3] [.inl (xs.getD x.toNat 0), s2, s3] M Q) := sf_qS_ld rfl
set_option maxRecDepth 100000 in
theorem q165_354 (d : Nat) (a1 : Int) (a0 : Nat) (l0 l1 l2 l3 : Option sf_V) (s2 : sf_V) (V : sf_MV) (sc : Option (List Int)) (Q : Option sf_V → sf_M → Prop) (h : sf_cls a0 = 12) : sf_wp (d + 1) sc 165 354 [l0, l1, l2, l3] [.inl a1, .inr (.inl (some a0)), s2] (sf_E V) Q = sf_wp d none 129 0 [some (.inr (.inl (some a0))), some (.inl a1), none] [] (sf_E V) (fun r M1 => sf_wp (d + 1) sc 165 357 [l0, l1, l2, l3] (r.toList ++ [s2]) M1 Q) := sf_qV h rfl (by decide) ⟨⟨Nat.le_of_ble_eq_true rfl, Nat.le_of_ble_eq_true rfl, Nat.le_of_ble_eq_true rfl⟩, rfl⟩ rfl rfl rfl
set_option maxRecDepth 100000 in
theorem q165_357 (d : Nat) (z : Int) (x : Int) (l0 l1 l2 l3 : Option sf_V) (M : sf_M) (sc : Option (List Int)) (Q : Option sf_V → sf_M → Prop) : sf_wp d sc 165 357 [l0, l1, l2, l3] [.inl z, .inl x] M Q = if x = z then sf_wp d sc 165 968 [l0, l1, l2, l3] [] M Q else sf_wp d sc 165 360 [l0, l1, l2, l3] [] M Q := sf_qic_eq rfl
set_option maxRecDepth 100000 in
theorem q165_360 (d : Nat) (l0 l1 l2 l3 : Option sf_V) (M : sf_M) (sc : Option (List Int)) (Q : Option sf_V → sf_M → Prop) : sf_wp d sc 165 360 [l0, l1, l2, l3] [] M Q = sf_wp d sc 165 361 [l0, l1, l2, l3] [.inl 0] M Q := sf_q rfl rfl
set_option maxRecDepth 100000 in
theorem q165_361 (d : Nat) (x : Int) (l0 l1 l2 l3 : Option sf_V) (M : sf_M) (sc : Option (List Int)) (Q : Option sf_V → sf_M → Prop) : sf_wp d sc 165 361 [l0, l1, l2, l3] [.inl x] M Q = ((x = 0 ∨ x = 1) ∧ Q (some (.inl x)) M) := sf_qRz rfl
set_option maxRecDepth 100000 in
theorem q165_362 (d : Nat) (x : Nat) (l0 l2 l3 : Option sf_V) (M : sf_M) (sc : Option (List Int)) (Q : Option sf_V → sf_M → Prop) : sf_wp d sc 165 362 [l0, some (.inr (.inl (some x))), l2, l3] [] M Q = sf_wp d sc 165 363 [l0, some (.inr (.inl (some x))), l2, l3] [.inr (.inl (some x))] M Q := sf_q rfl rfl
set_option maxRecDepth 100000 in
theorem q165_363 (d : Nat) (l1 l2 l3 : Option sf_V) (s0 : sf_V) (M : sf_M) (sc : Option (List Int)) (Q : Option sf_V → sf_M → Prop) : sf_wp d sc 165 363 [some (.inr (.inr (.inr ()))), l1, l2, l3] [s0] M Q = sf_wp d sc 165 364 [some (.inr (.inr (.inr ()))), l1, l2, l3] [.inr (.inr (.inr ())), s0] M Q := sf_q rfl rfl
set_option maxRecDepth 100000 in
theorem q165_364 (d : Nat) (x : Int) (l0 l1 l2 : Option sf_V) (s0 s1 : sf_V) (M : sf_M) (sc : Option (List Int)) (Q : Option sf_V → sf_M → Prop) : sf_wp d sc 165 364 [l0, l1, l2, some (.inl x)] [s0, s1] M Q = sf_wp d sc 165 365 [l0, l1, l2, some (.inl x)] [.inl x, s0, s1] M Q := sf_q rfl rfl
set_option maxRecDepth 100000 in
theorem q165_365 (d : Nat) (l0 l1 l2 l3 : Option sf_V) (s0 s1 s2 : sf_V) (M : sf_M) (sc : Option (List Int)) (Q : Option sf_V → sf_M → Prop) : sf_wp d sc 165 365 [l0, l1, l2, l3] [s0, s1, s2] M Q = sf_wp d sc 165 366 [l0, l1, l2, l3] [.inl 1, s0, s1, s2] M Q := sf_q rfl rfl
set_option maxRecDepth 100000 in
theorem q165_366 (d : Nat) (z : Int) (x : Int) (l0 l1 l2 l3 : Option sf_V) (s2 s3 : sf_V) (M : sf_M) (sc : Option (List Int)) (Q : Option sf_V → sf_M → Prop) : sf_wp d sc 165 366 [l0, l1, l2, l3] [.inl z, .inl x, s2, s3] M Q = sf_wp d sc 165 367 [l0, l1, l2, l3] [.inl (sf_w (x + z)), s2, s3] M Q := sf_q rfl rfl
set_option maxRecDepth 100000 in
theorem q165_367 (d : Nat) (x : Int) (l0 l1 l2 l3 : Option sf_V) (s2 : sf_V) (M : sf_M) (xs : List Int) (Q : Option sf_V → sf_M → Prop) : sf_wp d (some xs) 165 367 [l0, l1, l2, l3] [.inl x, .inr (.inr (.inr ())), s2] M Q = ((0 ≤ x ∧ x < xs.length) ∧ sf_wp d (some xs) 165 368 [l0, l1, l2, l3] [.inl (xs.getD x.toNat 0), s2] M Q) := sf_qS_ld rfl
set_option maxRecDepth 100000 in
theorem q165_368 (d : Nat) (a1 : Int) (a0 : Nat) (l0 l1 l2 l3 : Option sf_V) (V : sf_MV) (sc : Option (List Int)) (Q : Option sf_V → sf_M → Prop) (h : sf_cls a0 = 11) : sf_wp (d + 1) sc 165 368 [l0, l1, l2, l3] [.inl a1, .inr (.inl (some a0))] (sf_E V) Q = sf_wp d none 68 0 [some (.inr (.inl (some a0))), some (.inl a1), none, none] [] (sf_E V) (fun r M1 => sf_wp (d + 1) sc 165 371 [l0, l1, l2, l3] (r.toList ++ []) M1 Q) := sf_qV h rfl (by decide) ⟨⟨Nat.le_of_ble_eq_true rfl, Nat.le_of_ble_eq_true rfl, Nat.le_of_ble_eq_true rfl⟩, rfl⟩ rfl rfl rfl
set_option maxRecDepth 100000 in
theorem q165_371 (d : Nat) (x : Nat) (l0 l1 l3 : Option sf_V) (s0 : sf_V) (M : sf_M) (sc : Option (List Int)) (Q : Option sf_V → sf_M → Prop) : sf_wp d sc 165 371 [l0, l1, some (.inr (.inl (some x))), l3] [s0] M Q = sf_wp d sc 165 372 [l0, l1, some (.inr (.inl (some x))), l3] [.inr (.inl (some x)), s0] M Q := sf_q rfl rfl
set_option maxRecDepth 100000 in
theorem q165_372 (d : Nat) (l1 l2 l3 : Option sf_V) (s0 s1 : sf_V) (M : sf_M) (sc : Option (List Int)) (Q : Option sf_V → sf_M → Prop) : sf_wp d sc 165 372 [some (.inr (.inr (.inr ()))), l1, l2, l3] [s0, s1] M Q = sf_wp d sc 165 373 [some (.inr (.inr (.inr ()))), l1, l2, l3] [.inr (.inr (.inr ())), s0, s1] M Q := sf_q rfl rfl
set_option maxRecDepth 100000 in
theorem q165_373 (d : Nat) (x : Int) (l0 l1 l2 : Option sf_V) (s0 s1 s2 : sf_V) (M : sf_M) (sc : Option (List Int)) (Q : Option sf_V → sf_M → Prop) : sf_wp d sc 165 373 [l0, l1, l2, some (.inl x)] [s0, s1, s2] M Q = sf_wp d sc 165 374 [l0, l1, l2, some (.inl x)] [.inl x, s0, s1, s2] M Q := sf_q rfl rfl
set_option maxRecDepth 100000 in
theorem q165_374 (d : Nat) (l0 l1 l2 l3 : Option sf_V) (s0 s1 s2 s3 : sf_V) (M : sf_M) (sc : Option (List Int)) (Q : Option sf_V → sf_M → Prop) : sf_wp d sc 165 374 [l0, l1, l2, l3] [s0, s1, s2, s3] M Q = sf_wp d sc 165 375 [l0, l1, l2, l3] [.inl 1, s0, s1, s2, s3] M Q := sf_q rfl rfl
set_option maxRecDepth 100000 in
theorem q165_375 (d : Nat) (z : Int) (x : Int) (l0 l1 l2 l3 : Option sf_V) (s2 s3 s4 : sf_V) (M : sf_M) (sc : Option (List Int)) (Q : Option sf_V → sf_M → Prop) : sf_wp d sc 165 375 [l0, l1, l2, l3] [.inl z, .inl x, s2, s3, s4] M Q = sf_wp d sc 165 376 [l0, l1, l2, l3] [.inl (sf_w (x + z)), s2, s3, s4] M Q := sf_q rfl rfl
set_option maxRecDepth 100000 in
theorem q165_376 (d : Nat) (x : Int) (l0 l1 l2 l3 : Option sf_V) (s2 s3 : sf_V) (M : sf_M) (xs : List Int) (Q : Option sf_V → sf_M → Prop) : sf_wp d (some xs) 165 376 [l0, l1, l2, l3] [.inl x, .inr (.inr (.inr ())), s2, s3] M Q = ((0 ≤ x ∧ x < xs.length) ∧ sf_wp d (some xs) 165 377 [l0, l1, l2, l3] [.inl (xs.getD x.toNat 0), s2, s3] M Q) := sf_qS_ld rfl
set_option maxRecDepth 100000 in
theorem q165_377 (d : Nat) (a1 : Int) (a0 : Nat) (l0 l1 l2 l3 : Option sf_V) (s2 : sf_V) (V : sf_MV) (sc : Option (List Int)) (Q : Option sf_V → sf_M → Prop) (h : sf_cls a0 = 12) : sf_wp (d + 1) sc 165 377 [l0, l1, l2, l3] [.inl a1, .inr (.inl (some a0)), s2] (sf_E V) Q = sf_wp d none 131 0 [some (.inr (.inl (some a0))), some (.inl a1), none, none, none] [] (sf_E V) (fun r M1 => sf_wp (d + 1) sc 165 380 [l0, l1, l2, l3] (r.toList ++ [s2]) M1 Q) := sf_qV h rfl (by decide) ⟨⟨Nat.le_of_ble_eq_true rfl, Nat.le_of_ble_eq_true rfl, Nat.le_of_ble_eq_true rfl⟩, rfl⟩ rfl rfl rfl
set_option maxRecDepth 100000 in
theorem q165_380 (d : Nat) (z : Int) (x : Int) (l0 l1 l2 l3 : Option sf_V) (M : sf_M) (sc : Option (List Int)) (Q : Option sf_V → sf_M → Prop) : sf_wp d sc 165 380 [l0, l1, l2, l3] [.inl z, .inl x] M Q = if x = z then sf_wp d sc 165 968 [l0, l1, l2, l3] [] M Q else sf_wp d sc 165 383 [l0, l1, l2, l3] [] M Q := sf_qic_eq rfl
set_option maxRecDepth 100000 in
theorem q165_383 (d : Nat) (l0 l1 l2 l3 : Option sf_V) (M : sf_M) (sc : Option (List Int)) (Q : Option sf_V → sf_M → Prop) : sf_wp d sc 165 383 [l0, l1, l2, l3] [] M Q = sf_wp d sc 165 384 [l0, l1, l2, l3] [.inl 0] M Q := sf_q rfl rfl
set_option maxRecDepth 100000 in
theorem q165_384 (d : Nat) (x : Int) (l0 l1 l2 l3 : Option sf_V) (M : sf_M) (sc : Option (List Int)) (Q : Option sf_V → sf_M → Prop) : sf_wp d sc 165 384 [l0, l1, l2, l3] [.inl x] M Q = ((x = 0 ∨ x = 1) ∧ Q (some (.inl x)) M) := sf_qRz rfl
set_option maxRecDepth 100000 in
theorem q165_385 (d : Nat) (x : Nat) (l0 l2 l3 : Option sf_V) (M : sf_M) (sc : Option (List Int)) (Q : Option sf_V → sf_M → Prop) : sf_wp d sc 165 385 [l0, some (.inr (.inl (some x))), l2, l3] [] M Q = sf_wp d sc 165 386 [l0, some (.inr (.inl (some x))), l2, l3] [.inr (.inl (some x))] M Q := sf_q rfl rfl
set_option maxRecDepth 100000 in
theorem q165_386 (d : Nat) (l1 l2 l3 : Option sf_V) (s0 : sf_V) (M : sf_M) (sc : Option (List Int)) (Q : Option sf_V → sf_M → Prop) : sf_wp d sc 165 386 [some (.inr (.inr (.inr ()))), l1, l2, l3] [s0] M Q = sf_wp d sc 165 387 [some (.inr (.inr (.inr ()))), l1, l2, l3] [.inr (.inr (.inr ())), s0] M Q := sf_q rfl rfl
set_option maxRecDepth 100000 in
theorem q165_387 (d : Nat) (x : Int) (l0 l1 l2 : Option sf_V) (s0 s1 : sf_V) (M : sf_M) (sc : Option (List Int)) (Q : Option sf_V → sf_M → Prop) : sf_wp d sc 165 387 [l0, l1, l2, some (.inl x)] [s0, s1] M Q = sf_wp d sc 165 388 [l0, l1, l2, some (.inl x)] [.inl x, s0, s1] M Q := sf_q rfl rfl
set_option maxRecDepth 100000 in
theorem q165_388 (d : Nat) (l0 l1 l2 l3 : Option sf_V) (s0 s1 s2 : sf_V) (M : sf_M) (sc : Option (List Int)) (Q : Option sf_V → sf_M → Prop) : sf_wp d sc 165 388 [l0, l1, l2, l3] [s0, s1, s2] M Q = sf_wp d sc 165 389 [l0, l1, l2, l3] [.inl 1, s0, s1, s2] M Q := sf_q rfl rfl
set_option maxRecDepth 100000 in
theorem q165_389 (d : Nat) (z : Int) (x : Int) (l0 l1 l2 l3 : Option sf_V) (s2 s3 : sf_V) (M : sf_M) (sc : Option (List Int)) (Q : Option sf_V → sf_M → Prop) : sf_wp d sc 165 389 [l0, l1, l2, l3] [.inl z, .inl x, s2, s3] M Q = sf_wp d sc 165 390 [l0, l1, l2, l3] [.inl (sf_w (x + z)), s2, s3] M Q := sf_q rfl rfl
set_option maxRecDepth 100000 in
theorem q165_390 (d : Nat) (x : Int) (l0 l1 l2 l3 : Option sf_V) (s2 : sf_V) (M : sf_M) (xs : List Int) (Q : Option sf_V → sf_M → Prop) : sf_wp d (some xs) 165 390 [l0, l1, l2, l3] [.inl x, .inr (.inr (.inr ())), s2] M Q = ((0 ≤ x ∧ x < xs.length) ∧ sf_wp d (some xs) 165 391 [l0, l1, l2, l3] [.inl (xs.getD x.toNat 0), s2] M Q) := sf_qS_ld rfl
set_option maxRecDepth 100000 in
theorem q165_391 (d : Nat) (a1 : Int) (a0 : Nat) (l0 l1 l2 l3 : Option sf_V) (V : sf_MV) (sc : Option (List Int)) (Q : Option sf_V → sf_M → Prop) (h : sf_cls a0 = 11) : sf_wp (d + 1) sc 165 391 [l0, l1, l2, l3] [.inl a1, .inr (.inl (some a0))] (sf_E V) Q = sf_wp d none 69 0 [some (.inr (.inl (some a0))), some (.inl a1)] [] (sf_E V) (fun r M1 => sf_wp (d + 1) sc 165 394 [l0, l1, l2, l3] (r.toList ++ []) M1 Q) := sf_qV h rfl (by decide) ⟨⟨Nat.le_of_ble_eq_true rfl, Nat.le_of_ble_eq_true rfl, Nat.le_of_ble_eq_true rfl⟩, rfl⟩ rfl rfl rfl
set_option maxRecDepth 100000 in
theorem q165_394 (d : Nat) (x : Nat) (l0 l1 l3 : Option sf_V) (s0 : sf_V) (M : sf_M) (sc : Option (List Int)) (Q : Option sf_V → sf_M → Prop) : sf_wp d sc 165 394 [l0, l1, some (.inr (.inl (some x))), l3] [s0] M Q = sf_wp d sc 165 395 [l0, l1, some (.inr (.inl (some x))), l3] [.inr (.inl (some x)), s0] M Q := sf_q rfl rfl
set_option maxRecDepth 100000 in
theorem q165_395 (d : Nat) (l1 l2 l3 : Option sf_V) (s0 s1 : sf_V) (M : sf_M) (sc : Option (List Int)) (Q : Option sf_V → sf_M → Prop) : sf_wp d sc 165 395 [some (.inr (.inr (.inr ()))), l1, l2, l3] [s0, s1] M Q = sf_wp d sc 165 396 [some (.inr (.inr (.inr ()))), l1, l2, l3] [.inr (.inr (.inr ())), s0, s1] M Q := sf_q rfl rfl
set_option maxRecDepth 100000 in
theorem q165_396 (d : Nat) (x : Int) (l0 l1 l2 : Option sf_V) (s0 s1 s2 : sf_V) (M : sf_M) (sc : Option (List Int)) (Q : Option sf_V → sf_M → Prop) : sf_wp d sc 165 396 [l0, l1, l2, some (.inl x)] [s0, s1, s2] M Q = sf_wp d sc 165 397 [l0, l1, l2, some (.inl x)] [.inl x, s0, s1, s2] M Q := sf_q rfl rfl
set_option maxRecDepth 100000 in
theorem q165_397 (d : Nat) (l0 l1 l2 l3 : Option sf_V) (s0 s1 s2 s3 : sf_V) (M : sf_M) (sc : Option (List Int)) (Q : Option sf_V → sf_M → Prop) : sf_wp d sc 165 397 [l0, l1, l2, l3] [s0, s1, s2, s3] M Q = sf_wp d sc 165 398 [l0, l1, l2, l3] [.inl 1, s0, s1, s2, s3] M Q := sf_q rfl rfl
set_option maxRecDepth 100000 in
theorem q165_398 (d : Nat) (z : Int) (x : Int) (l0 l1 l2 l3 : Option sf_V) (s2 s3 s4 : sf_V) (M : sf_M) (sc : Option (List Int)) (Q : Option sf_V → sf_M → Prop) : sf_wp d sc 165 398 [l0, l1, l2, l3] [.inl z, .inl x, s2, s3, s4] M Q = sf_wp d sc 165 399 [l0, l1, l2, l3] [.inl (sf_w (x + z)), s2, s3, s4] M Q := sf_q rfl rfl
set_option maxRecDepth 100000 in
theorem q165_399 (d : Nat) (x : Int) (l0 l1 l2 l3 : Option sf_V) (s2 s3 : sf_V) (M : sf_M) (xs : List Int) (Q : Option sf_V → sf_M → Prop) : sf_wp d (some xs) 165 399 [l0, l1, l2, l3] [.inl x, .inr (.inr (.inr ())), s2, s3] M Q = ((0 ≤ x ∧ x < xs.length) ∧ sf_wp d (some xs) 165 400 [l0, l1, l2, l3] [.inl (xs.getD x.toNat 0), s2, s3] M Q) := sf_qS_ld rfl
set_option maxRecDepth 100000 in
theorem q165_400 (d : Nat) (a1 : Int) (a0 : Nat) (l0 l1 l2 l3 : Option sf_V) (s2 : sf_V) (V : sf_MV) (sc : Option (List Int)) (Q : Option sf_V → sf_M → Prop) (h : sf_cls a0 = 12) : sf_wp (d + 1) sc 165 400 [l0, l1, l2, l3] [.inl a1, .inr (.inl (some a0)), s2] (sf_E V) Q = sf_wp d none 132 0 [some (.inr (.inl (some a0))), some (.inl a1)] [] (sf_E V) (fun r M1 => sf_wp (d + 1) sc 165 403 [l0, l1, l2, l3] (r.toList ++ [s2]) M1 Q) := sf_qV h rfl (by decide) ⟨⟨Nat.le_of_ble_eq_true rfl, Nat.le_of_ble_eq_true rfl, Nat.le_of_ble_eq_true rfl⟩, rfl⟩ rfl rfl rfl
set_option maxRecDepth 100000 in
theorem q165_403 (d : Nat) (z : Int) (x : Int) (l0 l1 l2 l3 : Option sf_V) (M : sf_M) (sc : Option (List Int)) (Q : Option sf_V → sf_M → Prop) : sf_wp d sc 165 403 [l0, l1, l2, l3] [.inl z, .inl x] M Q = if x = z then sf_wp d sc 165 968 [l0, l1, l2, l3] [] M Q else sf_wp d sc 165 406 [l0, l1, l2, l3] [] M Q := sf_qic_eq rfl
set_option maxRecDepth 100000 in
theorem q165_406 (d : Nat) (l0 l1 l2 l3 : Option sf_V) (M : sf_M) (sc : Option (List Int)) (Q : Option sf_V → sf_M → Prop) : sf_wp d sc 165 406 [l0, l1, l2, l3] [] M Q = sf_wp d sc 165 407 [l0, l1, l2, l3] [.inl 0] M Q := sf_q rfl rfl
set_option maxRecDepth 100000 in
theorem q165_407 (d : Nat) (x : Int) (l0 l1 l2 l3 : Option sf_V) (M : sf_M) (sc : Option (List Int)) (Q : Option sf_V → sf_M → Prop) : sf_wp d sc 165 407 [l0, l1, l2, l3] [.inl x] M Q = ((x = 0 ∨ x = 1) ∧ Q (some (.inl x)) M) := sf_qRz rfl
set_option maxRecDepth 100000 in
theorem q165_408 (d : Nat) (x : Nat) (l0 l2 l3 : Option sf_V) (M : sf_M) (sc : Option (List Int)) (Q : Option sf_V → sf_M → Prop) : sf_wp d sc 165 408 [l0, some (.inr (.inl (some x))), l2, l3] [] M Q = sf_wp d sc 165 409 [l0, some (.inr (.inl (some x))), l2, l3] [.inr (.inl (some x))] M Q := sf_q rfl rfl
set_option maxRecDepth 100000 in
theorem q165_409 (d : Nat) (l1 l2 l3 : Option sf_V) (s0 : sf_V) (M : sf_M) (sc : Option (List Int)) (Q : Option sf_V → sf_M → Prop) : sf_wp d sc 165 409 [some (.inr (.inr (.inr ()))), l1, l2, l3] [s0] M Q = sf_wp d sc 165 410 [some (.inr (.inr (.inr ()))), l1, l2, l3] [.inr (.inr (.inr ())), s0] M Q := sf_q rfl rfl
set_option maxRecDepth 100000 in
theorem q165_410 (d : Nat) (x : Int) (l0 l1 l2 : Option sf_V) (s0 s1 : sf_V) (M : sf_M) (sc : Option (List Int)) (Q : Option sf_V → sf_M → Prop) : sf_wp d sc 165 410 [l0, l1, l2, some (.inl x)] [s0, s1] M Q = sf_wp d sc 165 411 [l0, l1, l2, some (.inl x)] [.inl x, s0, s1] M Q := sf_q rfl rfl
set_option maxRecDepth 100000 in
theorem q165_411 (d : Nat) (l0 l1 l2 l3 : Option sf_V) (s0 s1 s2 : sf_V) (M : sf_M) (sc : Option (List Int)) (Q : Option sf_V → sf_M → Prop) : sf_wp d sc 165 411 [l0, l1, l2, l3] [s0, s1, s2] M Q = sf_wp d sc 165 412 [l0, l1, l2, l3] [.inl 1, s0, s1, s2] M Q := sf_q rfl rfl
set_option maxRecDepth 100000 in
theorem q165_412 (d : Nat) (z : Int) (x : Int) (l0 l1 l2 l3 : Option sf_V) (s2 s3 : sf_V) (M : sf_M) (sc : Option (List Int)) (Q : Option sf_V → sf_M → Prop) : sf_wp d sc 165 412 [l0, l1, l2, l3] [.inl z, .inl x, s2, s3] M Q = sf_wp d sc 165 413 [l0, l1, l2, l3] [.inl (sf_w (x + z)), s2, s3] M Q := sf_q rfl rfl
set_option maxRecDepth 100000 in
theorem q165_413 (d : Nat) (x : Int) (l0 l1 l2 l3 : Option sf_V) (s2 : sf_V) (M : sf_M) (xs : List Int) (Q : Option sf_V → sf_M → Prop) : sf_wp d (some xs) 165 413 [l0, l1, l2, l3] [.inl x, .inr (.inr (.inr ())), s2] M Q = ((0 ≤ x ∧ x < xs.length) ∧ sf_wp d (some xs) 165 414 [l0, l1, l2, l3] [.inl (xs.getD x.toNat 0), s2] M Q) := sf_qS_ld rfl
set_option maxRecDepth 100000 in
theorem q165_414 (d : Nat) (l1 l2 l3 : Option sf_V) (s0 s1 : sf_V) (M : sf_M) (sc : Option (List Int)) (Q : Option sf_V → sf_M → Prop) : sf_wp d sc 165 414 [some (.inr (.inr (.inr ()))), l1, l2, l3] [s0, s1] M Q = sf_wp d sc 165 415 [some (.inr (.inr (.inr ()))), l1, l2, l3] [.inr (.inr (.inr ())), s0, s1] M Q := sf_q rfl rfl
set_option maxRecDepth 100000 in
theorem q165_415 (d : Nat) (x : Int) (l0 l1 l2 : Option sf_V) (s0 s1 s2 : sf_V) (M : sf_M) (sc : Option (List Int)) (Q : Option sf_V → sf_M → Prop) : sf_wp d sc 165 415 [l0, l1, l2, some (.inl x)] [s0, s1, s2] M Q = sf_wp d sc 165 416 [l0, l1, l2, some (.inl x)] [.inl x, s0, s1, s2] M Q := sf_q rfl rfl
set_option maxRecDepth 100000 in
theorem q165_416 (d : Nat) (l0 l1 l2 l3 : Option sf_V) (s0 s1 s2 s3 : sf_V) (M : sf_M) (sc : Option (List Int)) (Q : Option sf_V → sf_M → Prop) : sf_wp d sc 165 416 [l0, l1, l2, l3] [s0, s1, s2, s3] M Q = sf_wp d sc 165 417 [l0, l1, l2, l3] [.inl 2, s0, s1, s2, s3] M Q := sf_q rfl rfl
set_option maxRecDepth 100000 in
theorem q165_417 (d : Nat) (z : Int) (x : Int) (l0 l1 l2 l3 : Option sf_V) (s2 s3 s4 : sf_V) (M : sf_M) (sc : Option (List Int)) (Q : Option sf_V → sf_M → Prop) : sf_wp d sc 165 417 [l0, l1, l2, l3] [.inl z, .inl x, s2, s3, s4] M Q = sf_wp d sc 165 418 [l0, l1, l2, l3] [.inl (sf_w (x + z)), s2, s3, s4] M Q := sf_q rfl rfl
set_option maxRecDepth 100000 in
theorem q165_418 (d : Nat) (x : Int) (l0 l1 l2 l3 : Option sf_V) (s2 s3 : sf_V) (M : sf_M) (xs : List Int) (Q : Option sf_V → sf_M → Prop) : sf_wp d (some xs) 165 418 [l0, l1, l2, l3] [.inl x, .inr (.inr (.inr ())), s2, s3] M Q = ((0 ≤ x ∧ x < xs.length) ∧ sf_wp d (some xs) 165 419 [l0, l1, l2, l3] [.inl (xs.getD x.toNat 0), s2, s3] M Q) := sf_qS_ld rfl
set_option maxRecDepth 100000 in
theorem q165_419 (d : Nat) (a2 : Int) (a1 : Int) (a0 : Nat) (l0 l1 l2 l3 : Option sf_V) (V : sf_MV) (sc : Option (List Int)) (Q : Option sf_V → sf_M → Prop) (h : sf_cls a0 = 11) : sf_wp (d + 1) sc 165 419 [l0, l1, l2, l3] [.inl a2, .inl a1, .inr (.inl (some a0))] (sf_E V) Q = sf_wp d none 70 0 [some (.inr (.inl (some a0))), some (.inl a1), some (.inl a2), none] [] (sf_E V) (fun r M1 => sf_wp (d + 1) sc 165 422 [l0, l1, l2, l3] (r.toList ++ []) M1 Q) := sf_qV h rfl (by decide) ⟨⟨Nat.le_of_ble_eq_true rfl, Nat.le_of_ble_eq_true rfl, Nat.le_of_ble_eq_true rfl⟩, rfl⟩ rfl rfl rfl
set_option maxRecDepth 100000 in
theorem q165_422 (d : Nat) (x : Nat) (l0 l1 l3 : Option sf_V) (s0 : sf_V) (M : sf_M) (sc : Option (List Int)) (Q : Option sf_V → sf_M → Prop) : sf_wp d sc 165 422 [l0, l1, some (.inr (.inl (some x))), l3] [s0] M Q = sf_wp d sc 165 423 [l0, l1, some (.inr (.inl (some x))), l3] [.inr (.inl (some x)), s0] M Q := sf_q rfl rfl
set_option maxRecDepth 100000 in
theorem q165_423 (d : Nat) (l1 l2 l3 : Option sf_V) (s0 s1 : sf_V) (M : sf_M) (sc : Option (List Int)) (Q : Option sf_V → sf_M → Prop) : sf_wp d sc 165 423 [some (.inr (.inr (.inr ()))), l1, l2, l3] [s0, s1] M Q = sf_wp d sc 165 424 [some (.inr (.inr (.inr ()))), l1, l2, l3] [.inr (.inr (.inr ())), s0, s1] M Q := sf_q rfl rfl
set_option maxRecDepth 100000 in
theorem q165_424 (d : Nat) (x : Int) (l0 l1 l2 : Option sf_V) (s0 s1 s2 : sf_V) (M : sf_M) (sc : Option (List Int)) (Q : Option sf_V → sf_M → Prop) : sf_wp d sc 165 424 [l0, l1, l2, some (.inl x)] [s0, s1, s2] M Q = sf_wp d sc 165 425 [l0, l1, l2, some (.inl x)] [.inl x, s0, s1, s2] M Q := sf_q rfl rfl
set_option maxRecDepth 100000 in
theorem q165_425 (d : Nat) (l0 l1 l2 l3 : Option sf_V) (s0 s1 s2 s3 : sf_V) (M : sf_M) (sc : Option (List Int)) (Q : Option sf_V → sf_M → Prop) : sf_wp d sc 165 425 [l0, l1, l2, l3] [s0, s1, s2, s3] M Q = sf_wp d sc 165 426 [l0, l1, l2, l3] [.inl 1, s0, s1, s2, s3] M Q := sf_q rfl rfl
set_option maxRecDepth 100000 in
theorem q165_426 (d : Nat) (z : Int) (x : Int) (l0 l1 l2 l3 : Option sf_V) (s2 s3 s4 : sf_V) (M : sf_M) (sc : Option (List Int)) (Q : Option sf_V → sf_M → Prop) : sf_wp d sc 165 426 [l0, l1, l2, l3] [.inl z, .inl x, s2, s3, s4] M Q = sf_wp d sc 165 427 [l0, l1, l2, l3] [.inl (sf_w (x + z)), s2, s3, s4] M Q := sf_q rfl rfl
set_option maxRecDepth 100000 in
theorem q165_427 (d : Nat) (x : Int) (l0 l1 l2 l3 : Option sf_V) (s2 s3 : sf_V) (M : sf_M) (xs : List Int) (Q : Option sf_V → sf_M → Prop) : sf_wp d (some xs) 165 427 [l0, l1, l2, l3] [.inl x, .inr (.inr (.inr ())), s2, s3] M Q = ((0 ≤ x ∧ x < xs.length) ∧ sf_wp d (some xs) 165 428 [l0, l1, l2, l3] [.inl (xs.getD x.toNat 0), s2, s3] M Q) := sf_qS_ld rfl
set_option maxRecDepth 100000 in
theorem q165_428 (d : Nat) (l1 l2 l3 : Option sf_V) (s0 s1 s2 : sf_V) (M : sf_M) (sc : Option (List Int)) (Q : Option sf_V → sf_M → Prop) : sf_wp d sc 165 428 [some (.inr (.inr (.inr ()))), l1, l2, l3] [s0, s1, s2] M Q = sf_wp d sc 165 429 [some (.inr (.inr (.inr ()))), l1, l2, l3] [.inr (.inr (.inr ())), s0, s1, s2] M Q := sf_q rfl rfl
set_option maxRecDepth 100000 in
theorem q165_429 (d : Nat) (x : Int) (l0 l1 l2 : Option sf_V) (s0 s1 s2 s3 : sf_V) (M : sf_M) (sc : Option (List Int)) (Q : Option sf_V → sf_M → Prop) : sf_wp d sc 165 429 [l0, l1, l2, some (.inl x)] [s0, s1, s2, s3] M Q = sf_wp d sc 165 430 [l0, l1, l2, some (.inl x)] [.inl x, s0, s1, s2, s3] M Q := sf_q rfl rfl
set_option maxRecDepth 100000 in
theorem q165_430 (d : Nat) (l0 l1 l2 l3 : Option sf_V) (s0 s1 s2 s3 s4 : sf_V) (M : sf_M) (sc : Option (List Int)) (Q : Option sf_V → sf_M → Prop) : sf_wp d sc 165 430 [l0, l1, l2, l3] [s0, s1, s2, s3, s4] M Q = sf_wp d sc 165 431 [l0, l1, l2, l3] [.inl 2, s0, s1, s2, s3, s4] M Q := sf_q rfl rfl
set_option maxRecDepth 100000 in
theorem q165_431 (d : Nat) (z : Int) (x : Int) (l0 l1 l2 l3 : Option sf_V) (s2 s3 s4 s5 : sf_V) (M : sf_M) (sc : Option (List Int)) (Q : Option sf_V → sf_M → Prop) : sf_wp d sc 165 431 [l0, l1, l2, l3] [.inl z, .inl x, s2, s3, s4, s5] M Q = sf_wp d sc 165 432 [l0, l1, l2, l3] [.inl (sf_w (x + z)), s2, s3, s4, s5] M Q := sf_q rfl rfl
set_option maxRecDepth 100000 in
theorem q165_432 (d : Nat) (x : Int) (l0 l1 l2 l3 : Option sf_V) (s2 s3 s4 : sf_V) (M : sf_M) (xs : List Int) (Q : Option sf_V → sf_M → Prop) : sf_wp d (some xs) 165 432 [l0, l1, l2, l3] [.inl x, .inr (.inr (.inr ())), s2, s3, s4] M Q = ((0 ≤ x ∧ x < xs.length) ∧ sf_wp d (some xs) 165 433 [l0, l1, l2, l3] [.inl (xs.getD x.toNat 0), s2, s3, s4] M Q) := sf_qS_ld rfl
set_option maxRecDepth 100000 in
theorem q165_433 (d : Nat) (a2 : Int) (a1 : Int) (a0 : Nat) (l0 l1 l2 l3 : Option sf_V) (s3 : sf_V) (V : sf_MV) (sc : Option (List Int)) (Q : Option sf_V → sf_M → Prop) (h : sf_cls a0 = 12) : sf_wp (d + 1) sc 165 433 [l0, l1, l2, l3] [.inl a2, .inl a1, .inr (.inl (some a0)), s3] (sf_E V) Q = sf_wp d none 133 0 [some (.inr (.inl (some a0))), some (.inl a1), some (.inl a2), none] [] (sf_E V) (fun r M1 => sf_wp (d + 1) sc 165 436 [l0, l1, l2, l3] (r.toList ++ [s3]) M1 Q) := sf_qV h rfl (by decide) ⟨⟨Nat.le_of_ble_eq_true rfl, Nat.le_of_ble_eq_true rfl, Nat.le_of_ble_eq_true rfl⟩, rfl⟩ rfl rfl rfl
set_option maxRecDepth 100000 in
theorem q165_436 (d : Nat) (z : Int) (x : Int) (l0 l1 l2 l3 : Option sf_V) (M : sf_M) (sc : Option (List Int)) (Q : Option sf_V → sf_M → Prop) : sf_wp d sc 165 436 [l0, l1, l2, l3] [.inl z, .inl x] M Q = if x = z then sf_wp d sc 165 968 [l0, l1, l2, l3] [] M Q else sf_wp d sc 165 439 [l0, l1, l2, l3] [] M Q := sf_qic_eq rfl
set_option maxRecDepth 100000 in
theorem q165_439 (d : Nat) (l0 l1 l2 l3 : Option sf_V) (M : sf_M) (sc : Option (List Int)) (Q : Option sf_V → sf_M → Prop) : sf_wp d sc 165 439 [l0, l1, l2, l3] [] M Q = sf_wp d sc 165 440 [l0, l1, l2, l3] [.inl 0] M Q := sf_q rfl rfl
set_option maxRecDepth 100000 in
theorem q165_440 (d : Nat) (x : Int) (l0 l1 l2 l3 : Option sf_V) (M : sf_M) (sc : Option (List Int)) (Q : Option sf_V → sf_M → Prop) : sf_wp d sc 165 440 [l0, l1, l2, l3] [.inl x] M Q = ((x = 0 ∨ x = 1) ∧ Q (some (.inl x)) M) := sf_qRz rfl
set_option maxRecDepth 100000 in
theorem q165_441 (d : Nat) (x : Nat) (l0 l2 l3 : Option sf_V) (M : sf_M) (sc : Option (List Int)) (Q : Option sf_V → sf_M → Prop) : sf_wp d sc 165 441 [l0, some (.inr (.inl (some x))), l2, l3] [] M Q = sf_wp d sc 165 442 [l0, some (.inr (.inl (some x))), l2, l3] [.inr (.inl (some x))] M Q := sf_q rfl rfl
set_option maxRecDepth 100000 in
theorem q165_442 (d : Nat) (l1 l2 l3 : Option sf_V) (s0 : sf_V) (M : sf_M) (sc : Option (List Int)) (Q : Option sf_V → sf_M → Prop) : sf_wp d sc 165 442 [some (.inr (.inr (.inr ()))), l1, l2, l3] [s0] M Q = sf_wp d sc 165 443 [some (.inr (.inr (.inr ()))), l1, l2, l3] [.inr (.inr (.inr ())), s0] M Q := sf_q rfl rfl
set_option maxRecDepth 100000 in
theorem q165_443 (d : Nat) (x : Int) (l0 l1 l2 : Option sf_V) (s0 s1 : sf_V) (M : sf_M) (sc : Option (List Int)) (Q : Option sf_V → sf_M → Prop) : sf_wp d sc 165 443 [l0, l1, l2, some (.inl x)] [s0, s1] M Q = sf_wp d sc 165 444 [l0, l1, l2, some (.inl x)] [.inl x, s0, s1] M Q := sf_q rfl rfl
set_option maxRecDepth 100000 in
theorem q165_444 (d : Nat) (l0 l1 l2 l3 : Option sf_V) (s0 s1 s2 : sf_V) (M : sf_M) (sc : Option (List Int)) (Q : Option sf_V → sf_M → Prop) : sf_wp d sc 165 444 [l0, l1, l2, l3] [s0, s1, s2] M Q = sf_wp d sc 165 445 [l0, l1, l2, l3] [.inl 1, s0, s1, s2] M Q := sf_q rfl rfl
set_option maxRecDepth 100000 in
theorem q165_445 (d : Nat) (z : Int) (x : Int) (l0 l1 l2 l3 : Option sf_V) (s2 s3 : sf_V) (M : sf_M) (sc : Option (List Int)) (Q : Option sf_V → sf_M → Prop) : sf_wp d sc 165 445 [l0, l1, l2, l3] [.inl z, .inl x, s2, s3] M Q = sf_wp d sc 165 446 [l0, l1, l2, l3] [.inl (sf_w (x + z)), s2, s3] M Q := sf_q rfl rfl
set_option maxRecDepth 100000 in
theorem q165_446 (d : Nat) (x : Int) (l0 l1 l2 l3 : Option sf_V) (s2 : sf_V) (M : sf_M) (xs : List Int) (Q : Option sf_V → sf_M → Prop) : sf_wp d (some xs) 165 446 [l0, l1, l2, l3] [.inl x, .inr (.inr (.inr ())), s2] M Q = ((0 ≤ x ∧ x < xs.length) ∧ sf_wp d (some xs) 165 447 [l0, l1, l2, l3] [.inl (xs.getD x.toNat 0), s2] M Q) := sf_qS_ld rfl
set_option maxRecDepth 100000 in
theorem q165_447 (d : Nat) (a1 : Int) (a0 : Nat) (l0 l1 l2 l3 : Option sf_V) (V : sf_MV) (sc : Option (List Int)) (Q : Option sf_V → sf_M → Prop) (h : sf_cls a0 = 11) : sf_wp (d + 1) sc 165 447 [l0, l1, l2, l3] [.inl a1, .inr (.inl (some a0))] (sf_E V) Q = sf_wp d none 71 0 [some (.inr (.inl (some a0))), some (.inl a1)] [] (sf_E V) (fun r M1 => sf_wp (d + 1) sc 165 450 [l0, l1, l2, l3] (r.toList ++ []) M1 Q) := sf_qV h rfl (by decide) ⟨⟨Nat.le_of_ble_eq_true rfl, Nat.le_of_ble_eq_true rfl, Nat.le_of_ble_eq_true rfl⟩, rfl⟩ rfl rfl rfl
set_option maxRecDepth 100000 in
theorem q165_450 (d : Nat) (x : Nat) (l0 l1 l3 : Option sf_V) (s0 : sf_V) (M : sf_M) (sc : Option (List Int)) (Q : Option sf_V → sf_M → Prop) : sf_wp d sc 165 450 [l0, l1, some (.inr (.inl (some x))), l3] [s0] M Q = sf_wp d sc 165 451 [l0, l1, some (.inr (.inl (some x))), l3] [.inr (.inl (some x)), s0] M Q := sf_q rfl rfl
set_option maxRecDepth 100000 in
theorem q165_451 (d : Nat) (l1 l2 l3 : Option sf_V) (s0 s1 : sf_V) (M : sf_M) (sc : Option (List Int)) (Q : Option sf_V → sf_M → Prop) : sf_wp d sc 165 451 [some (.inr (.inr (.inr ()))), l1, l2, l3] [s0, s1] M Q = sf_wp d sc 165 452 [some (.inr (.inr (.inr ()))), l1, l2, l3] [.inr (.inr (.inr ())), s0, s1] M Q := sf_q rfl rfl
set_option maxRecDepth 100000 in
theorem q165_452 (d : Nat) (x : Int) (l0 l1 l2 : Option sf_V) (s0 s1 s2 : sf_V) (M : sf_M) (sc : Option (List Int)) (Q : Option sf_V → sf_M → Prop) : sf_wp d sc 165 452 [l0, l1, l2, some (.inl x)] [s0, s1, s2] M Q = sf_wp d sc 165 453 [l0, l1, l2, some (.inl x)] [.inl x, s0, s1, s2] M Q := sf_q rfl rfl
set_option maxRecDepth 100000 in
theorem q165_453 (d : Nat) (l0 l1 l2 l3 : Option sf_V) (s0 s1 s2 s3 : sf_V) (M : sf_M) (sc : Option (List Int)) (Q : Option sf_V → sf_M → Prop) : sf_wp d sc 165 453 [l0, l1, l2, l3] [s0, s1, s2, s3] M Q = sf_wp d sc 165 454 [l0, l1, l2, l3] [.inl 1, s0, s1, s2, s3] M Q := sf_q rfl rfl
set_option maxRecDepth 100000 in
theorem q165_454 (d : Nat) (z : Int) (x : Int) (l0 l1 l2 l3 : Option sf_V) (s2 s3 s4 : sf_V) (M : sf_M) (sc : Option (List Int)) (Q : Option sf_V → sf_M → Prop) : sf_wp d sc 165 454 [l0, l1, l2, l3] [.inl z, .inl x, s2, s3, s4] M Q = sf_wp d sc 165 455 [l0, l1, l2, l3] [.inl (sf_w (x + z)), s2, s3, s4] M Q := sf_q rfl rfl
set_option maxRecDepth 100000 in
theorem q165_455 (d : Nat) (x : Int) (l0 l1 l2 l3 : Option sf_V) (s2 s3 : sf_V) (M : sf_M) (xs : List Int) (Q : Option sf_V → sf_M → Prop) : sf_wp d (some xs) 165 455 [l0, l1, l2, l3] [.inl x, .inr (.inr (.inr ())), s2, s3] M Q = ((0 ≤ x ∧ x < xs.length) ∧ sf_wp d (some xs) 165 456 [l0, l1, l2, l3] [.inl (xs.getD x.toNat 0), s2, s3] M Q) := sf_qS_ld rfl
set_option maxRecDepth 100000 in
theorem q165_456 (d : Nat) (a1 : Int) (a0 : Nat) (l0 l1 l2 l3 : Option sf_V) (s2 : sf_V) (V : sf_MV) (sc : Option (List Int)) (Q : Option sf_V → sf_M → Prop) (h : sf_cls a0 = 12) : sf_wp (d + 1) sc 165 456 [l0, l1, l2, l3] [.inl a1, .inr (.inl (some a0)), s2] (sf_E V) Q = sf_wp d none 134 0 [some (.inr (.inl (some a0))), some (.inl a1), none] [] (sf_E V) (fun r M1 => sf_wp (d + 1) sc 165 459 [l0, l1, l2, l3] (r.toList ++ [s2]) M1 Q) := sf_qV h rfl (by decide) ⟨⟨Nat.le_of_ble_eq_true rfl, Nat.le_of_ble_eq_true rfl, Nat.le_of_ble_eq_true rfl⟩, rfl⟩ rfl rfl rfl
set_option maxRecDepth 100000 in
theorem q165_459 (d : Nat) (z : Int) (x : Int) (l0 l1 l2 l3 : Option sf_V) (M : sf_M) (sc : Option (List Int)) (Q : Option sf_V → sf_M → Prop) : sf_wp d sc 165 459 [l0, l1, l2, l3] [.inl z, .inl x] M Q = if x = z then sf_wp d sc 165 968 [l0, l1, l2, l3] [] M Q else sf_wp d sc 165 462 [l0, l1, l2, l3] [] M Q := sf_qic_eq rfl
set_option maxRecDepth 100000 in
theorem q165_462 (d : Nat) (l0 l1 l2 l3 : Option sf_V) (M : sf_M) (sc : Option (List Int)) (Q : Option sf_V → sf_M → Prop) : sf_wp d sc 165 462 [l0, l1, l2, l3] [] M Q = sf_wp d sc 165 463 [l0, l1, l2, l3] [.inl 0] M Q := sf_q rfl rfl
set_option maxRecDepth 100000 in
theorem q165_463 (d : Nat) (x : Int) (l0 l1 l2 l3 : Option sf_V) (M : sf_M) (sc : Option (List Int)) (Q : Option sf_V → sf_M → Prop) : sf_wp d sc 165 463 [l0, l1, l2, l3] [.inl x] M Q = ((x = 0 ∨ x = 1) ∧ Q (some (.inl x)) M) := sf_qRz rfl
set_option maxRecDepth 100000 in
theorem q165_464 (d : Nat) (x : Nat) (l0 l2 l3 : Option sf_V) (M : sf_M) (sc : Option (List Int)) (Q : Option sf_V → sf_M → Prop) : sf_wp d sc 165 464 [l0, some (.inr (.inl (some x))), l2, l3] [] M Q = sf_wp d sc 165 465 [l0, some (.inr (.inl (some x))), l2, l3] [.inr (.inl (some x))] M Q := sf_q rfl rfl
set_option maxRecDepth 100000 in
theorem q165_465 (d : Nat) (l1 l2 l3 : Option sf_V) (s0 : sf_V) (M : sf_M) (sc : Option (List Int)) (Q : Option sf_V → sf_M → Prop) : sf_wp d sc 165 465 [some (.inr (.inr (.inr ()))), l1, l2, l3] [s0] M Q = sf_wp d sc 165 466 [some (.inr (.inr (.inr ()))), l1, l2, l3] [.inr (.inr (.inr ())), s0] M Q := sf_q rfl rfl
set_option maxRecDepth 100000 in
theorem q165_466 (d : Nat) (x : Int) (l0 l1 l2 : Option sf_V) (s0 s1 : sf_V) (M : sf_M) (sc : Option (List Int)) (Q : Option sf_V → sf_M → Prop) : sf_wp d sc 165 466 [l0, l1, l2, some (.inl x)] [s0, s1] M Q = sf_wp d sc 165 467 [l0, l1, l2, some (.inl x)] [.inl x, s0, s1] M Q := sf_q rfl rfl
set_option maxRecDepth 100000 in
theorem q165_467 (d : Nat) (l0 l1 l2 l3 : Option sf_V) (s0 s1 s2 : sf_V) (M : sf_M) (sc : Option (List Int)) (Q : Option sf_V → sf_M → Prop) : sf_wp d sc 165 467 [l0, l1, l2, l3] [s0, s1, s2] M Q = sf_wp d sc 165 468 [l0, l1, l2, l3] [.inl 1, s0, s1, s2] M Q := sf_q rfl rfl
set_option maxRecDepth 100000 in
theorem q165_468 (d : Nat) (z : Int) (x : Int) (l0 l1 l2 l3 : Option sf_V) (s2 s3 : sf_V) (M : sf_M) (sc : Option (List Int)) (Q : Option sf_V → sf_M → Prop) : sf_wp d sc 165 468 [l0, l1, l2, l3] [.inl z, .inl x, s2, s3] M Q = sf_wp d sc 165 469 [l0, l1, l2, l3] [.inl (sf_w (x + z)), s2, s3] M Q := sf_q rfl rfl
set_option maxRecDepth 100000 in
theorem q165_469 (d : Nat) (x : Int) (l0 l1 l2 l3 : Option sf_V) (s2 : sf_V) (M : sf_M) (xs : List Int) (Q : Option sf_V → sf_M → Prop) : sf_wp d (some xs) 165 469 [l0, l1, l2, l3] [.inl x, .inr (.inr (.inr ())), s2] M Q = ((0 ≤ x ∧ x < xs.length) ∧ sf_wp d (some xs) 165 470 [l0, l1, l2, l3] [.inl (xs.getD x.toNat 0), s2] M Q) := sf_qS_ld rfl
set_option maxRecDepth 100000 in
theorem q165_470 (d : Nat) (a1 : Int) (a0 : Nat) (l0 l1 l2 l3 : Option sf_V) (V : sf_MV) (sc : Option (List Int)) (Q : Option sf_V → sf_M → Prop) (h : sf_cls a0 = 11) : sf_wp (d + 1) sc 165 470 [l0, l1, l2, l3] [.inl a1, .inr (.inl (some a0))] (sf_E V) Q = sf_wp d none 72 0 [some (.inr (.inl (some a0))), some (.inl a1), none, none, none, none] [] (sf_E V) (fun r M1 => sf_wp (d + 1) sc 165 473 [l0, l1, l2, l3] (r.toList ++ []) M1 Q) := sf_qV h rfl (by decide) ⟨⟨Nat.le_of_ble_eq_true rfl, Nat.le_of_ble_eq_true rfl, Nat.le_of_ble_eq_true rfl⟩, rfl⟩ rfl rfl rfl
set_option maxRecDepth 100000 in
theorem q165_473 (d : Nat) (x : Nat) (l0 l1 l3 : Option sf_V) (s0 : sf_V) (M : sf_M) (sc : Option (List Int)) (Q : Option sf_V → sf_M → Prop) : sf_wp d sc 165 473 [l0, l1, some (.inr (.inl (some x))), l3] [s0] M Q = sf_wp d sc 165 474 [l0, l1, some (.inr (.inl (some x))), l3] [.inr (.inl (some x)), s0] M Q := sf_q rfl rfl
set_option maxRecDepth 100000 in
theorem q165_474 (d : Nat) (l1 l2 l3 : Option sf_V) (s0 s1 : sf_V) (M : sf_M) (sc : Option (List Int)) (Q : Option sf_V → sf_M → Prop) : sf_wp d sc 165 474 [some (.inr (.inr (.inr ()))), l1, l2, l3] [s0, s1] M Q = sf_wp d sc 165 475 [some (.inr (.inr (.inr ()))), l1, l2, l3] [.inr (.inr (.inr ())), s0, s1] M Q := sf_q rfl rfl
set_option maxRecDepth 100000 in
theorem q165_475 (d : Nat) (x : Int) (l0 l1 l2 : Option sf_V) (s0 s1 s2 : sf_V) (M : sf_M) (sc : Option (List Int)) (Q : Option sf_V → sf_M → Prop) : sf_wp d sc 165 475 [l0, l1, l2, some (.inl x)] [s0, s1, s2] M Q = sf_wp d sc 165 476 [l0, l1, l2, some (.inl x)] [.inl x, s0, s1, s2] M Q := sf_q rfl rfl
set_option maxRecDepth 100000 in
theorem q165_476 (d : Nat) (l0 l1 l2 l3 : Option sf_V) (s0 s1 s2 s3 : sf_V) (M : sf_M) (sc : Option (List Int)) (Q : Option sf_V → sf_M → Prop) : sf_wp d sc 165 476 [l0, l1, l2, l3] [s0, s1, s2, s3] M Q = sf_wp d sc 165 477 [l0, l1, l2, l3] [.inl 1, s0, s1, s2, s3] M Q := sf_q rfl rfl
set_option maxRecDepth 100000 in
theorem q165_477 (d : Nat) (z : Int) (x : Int) (l0 l1 l2 l3 : Option sf_V) (s2 s3 s4 : sf_V) (M : sf_M) (sc : Option (List Int)) (Q : Option sf_V → sf_M → Prop) : sf_wp d sc 165 477 [l0, l1, l2, l3] [.inl z, .inl x, s2, s3, s4] M Q = sf_wp d sc 165 478 [l0, l1, l2, l3] [.inl (sf_w (x + z)), s2, s3, s4] M Q := sf_q rfl rfl
set_option maxRecDepth 100000 in
theorem q165_478 (d : Nat) (x : Int) (l0 l1 l2 l3 : Option sf_V) (s2 s3 : sf_V) (M : sf_M) (xs : List Int) (Q : Option sf_V → sf_M → Prop) : sf_wp d (some xs) 165 478 [l0, l1, l2, l3] [.inl x, .inr (.inr (.inr ())), s2, s3] M Q = ((0 ≤ x ∧ x < xs.length) ∧ sf_wp d (some xs) 165 479 [l0, l1, l2, l3] [.inl (xs.getD x.toNat 0), s2, s3] M Q) := sf_qS_ld rfl
set_option maxRecDepth 100000 in
theorem q165_479 (d : Nat) (a1 : Int) (a0 : Nat) (l0 l1 l2 l3 : Option sf_V) (s2 : sf_V) (V : sf_MV) (sc : Option (List Int)) (Q : Option sf_V → sf_M → Prop) (h : sf_cls a0 = 12) : sf_wp (d + 1) sc 165 479 [l0, l1, l2, l3] [.inl a1, .inr (.inl (some a0)), s2] (sf_E V) Q = sf_wp d none 136 0 [some (.inr (.inl (some a0))), some (.inl a1), none, none] [] (sf_E V) (fun r M1 => sf_wp (d + 1) sc 165 482 [l0, l1, l2, l3] (r.toList ++ [s2]) M1 Q) := sf_qV h rfl (by decide) ⟨⟨Nat.le_of_ble_eq_true rfl, Nat.le_of_ble_eq_true rfl, Nat.le_of_ble_eq_true rfl⟩, rfl⟩ rfl rfl rfl
set_option maxRecDepth 100000 in
theorem q165_482 (d : Nat) (z : Int) (x : Int) (l0 l1 l2 l3 : Option sf_V) (M : sf_M) (sc : Option (List Int)) (Q : Option sf_V → sf_M → Prop) : sf_wp d sc 165 482 [l0, l1, l2, l3] [.inl z, .inl x] M Q = if x = z then sf_wp d sc 165 968 [l0, l1, l2, l3] [] M Q else sf_wp d sc 165 485 [l0, l1, l2, l3] [] M Q := sf_qic_eq rfl
set_option maxRecDepth 100000 in
theorem q165_485 (d : Nat) (l0 l1 l2 l3 : Option sf_V) (M : sf_M) (sc : Option (List Int)) (Q : Option sf_V → sf_M → Prop) : sf_wp d sc 165 485 [l0, l1, l2, l3] [] M Q = sf_wp d sc 165 486 [l0, l1, l2, l3] [.inl 0] M Q := sf_q rfl rfl
set_option maxRecDepth 100000 in
theorem q165_486 (d : Nat) (x : Int) (l0 l1 l2 l3 : Option sf_V) (M : sf_M) (sc : Option (List Int)) (Q : Option sf_V → sf_M → Prop) : sf_wp d sc 165 486 [l0, l1, l2, l3] [.inl x] M Q = ((x = 0 ∨ x = 1) ∧ Q (some (.inl x)) M) := sf_qRz rfl
set_option maxRecDepth 100000 in
theorem q165_487 (d : Nat) (x : Nat) (l0 l2 l3 : Option sf_V) (M : sf_M) (sc : Option (List Int)) (Q : Option sf_V → sf_M → Prop) : sf_wp d sc 165 487 [l0, some (.inr (.inl (some x))), l2, l3] [] M Q = sf_wp d sc 165 488 [l0, some (.inr (.inl (some x))), l2, l3] [.inr (.inl (some x))] M Q := sf_q rfl rfl
set_option maxRecDepth 100000 in
theorem q165_488 (d : Nat) (l1 l2 l3 : Option sf_V) (s0 : sf_V) (M : sf_M) (sc : Option (List Int)) (Q : Option sf_V → sf_M → Prop) : sf_wp d sc 165 488 [some (.inr (.inr (.inr ()))), l1, l2, l3] [s0] M Q = sf_wp d sc 165 489 [some (.inr (.inr (.inr ()))), l1, l2, l3] [.inr (.inr (.inr ())), s0] M Q := sf_q rfl rfl
set_option maxRecDepth 100000 in
theorem q165_489 (d : Nat) (x : Int) (l0 l1 l2 : Option sf_V) (s0 s1 : sf_V) (M : sf_M) (sc : Option (List Int)) (Q : Option sf_V → sf_M → Prop) : sf_wp d sc 165 489 [l0, l1, l2, some (.inl x)] [s0, s1] M Q = sf_wp d sc 165 490 [l0, l1, l2, some (.inl x)] [.inl x, s0, s1] M Q := sf_q rfl rfl
set_option maxRecDepth 100000 in
theorem q165_490 (d : Nat) (l0 l1 l2 l3 : Option sf_V) (s0 s1 s2 : sf_V) (M : sf_M) (sc : Option (List Int)) (Q : Option sf_V → sf_M → Prop) : sf_wp d sc 165 490 [l0, l1, l2, l3] [s0, s1, s2] M Q = sf_wp d sc 165 491 [l0, l1, l2, l3] [.inl 1, s0, s1, s2] M Q := sf_q rfl rfl
set_option maxRecDepth 100000 in
theorem q165_491 (d : Nat) (z : Int) (x : Int) (l0 l1 l2 l3 : Option sf_V) (s2 s3 : sf_V) (M : sf_M) (sc : Option (List Int)) (Q : Option sf_V → sf_M → Prop) : sf_wp d sc 165 491 [l0, l1, l2, l3] [.inl z, .inl x, s2, s3] M Q = sf_wp d sc 165 492 [l0, l1, l2, l3] [.inl (sf_w (x + z)), s2, s3] M Q := sf_q rfl rfl
set_option maxRecDepth 100000 in
theorem q165_492 (d : Nat) (x : Int) (l0 l1 l2 l3 : Option sf_V) (s2 : sf_V) (M : sf_M) (xs : List Int) (Q : Option sf_V → sf_M → Prop) : sf_wp d (some xs) 165 492 [l0, l1, l2, l3] [.inl x, .inr (.inr (.inr ())), s2] M Q = ((0 ≤ x ∧ x < xs.length) ∧ sf_wp d (some xs) 165 493 [l0, l1, l2, l3] [.inl (xs.getD x.toNat 0), s2] M Q) := sf_qS_ld rfl
set_option maxRecDepth 100000 in
theorem q165_493 (d : Nat) (l1 l2 l3 : Option sf_V) (s0 s1 : sf_V) (M : sf_M) (sc : Option (List Int)) (Q : Option sf_V → sf_M → Prop) : sf_wp d sc 165 493 [some (.inr (.inr (.inr ()))), l1, l2, l3] [s0, s1] M Q = sf_wp d sc 165 494 [some (.inr (.inr (.inr ()))), l1, l2, l3] [.inr (.inr (.inr ())), s0, s1] M Q := sf_q rfl rfl
set_option maxRecDepth 100000 in
theorem q165_494 (d : Nat) (x : Int) (l0 l1 l2 : Option sf_V) (s0 s1 s2 : sf_V) (M : sf_M) (sc : Option (List Int)) (Q : Option sf_V → sf_M → Prop) : sf_wp d sc 165 494 [l0, l1, l2, some (.inl x)] [s0, s1, s2] M Q = sf_wp d sc 165 495 [l0, l1, l2, some (.inl x)] [.inl x, s0, s1, s2] M Q := sf_q rfl rfl
set_option maxRecDepth 100000 in
theorem q165_495 (d : Nat) (l0 l1 l2 l3 : Option sf_V) (s0 s1 s2 s3 : sf_V) (M : sf_M) (sc : Option (List Int)) (Q : Option sf_V → sf_M → Prop) : sf_wp d sc 165 495 [l0, l1, l2, l3] [s0, s1, s2, s3] M Q = sf_wp d sc 165 496 [l0, l1, l2, l3] [.inl 2, s0, s1, s2, s3] M Q := sf_q rfl rfl
set_option maxRecDepth 100000 in
theorem q165_496 (d : Nat) (z : Int) (x : Int) (l0 l1 l2 l3 : Option sf_V) (s2 s3 s4 : sf_V) (M : sf_M) (sc : Option (List Int)) (Q : Option sf_V → sf_M → Prop) : sf_wp d sc 165 496 [l0, l1, l2, l3] [.inl z, .inl x, s2, s3, s4] M Q = sf_wp d sc 165 497 [l0, l1, l2, l3] [.inl (sf_w (x + z)), s2, s3, s4] M Q := sf_q rfl rfl
set_option maxRecDepth 100000 in
theorem q165_497 (d : Nat) (x : Int) (l0 l1 l2 l3 : Option sf_V) (s2 s3 : sf_V) (M : sf_M) (xs : List Int) (Q : Option sf_V → sf_M → Prop) : sf_wp d (some xs) 165 497 [l0, l1, l2, l3] [.inl x, .inr (.inr (.inr ())), s2, s3] M Q = ((0 ≤ x ∧ x < xs.length) ∧ sf_wp d (some xs) 165 498 [l0, l1, l2, l3] [.inl (xs.getD x.toNat 0), s2, s3] M Q) := sf_qS_ld rfl
set_option maxRecDepth 100000 in
theorem q165_498 (d : Nat) (l1 l2 l3 : Option sf_V) (s0 s1 s2 : sf_V) (M : sf_M) (sc : Option (List Int)) (Q : Option sf_V → sf_M → Prop) : sf_wp d sc 165 498 [some (.inr (.inr (.inr ()))), l1, l2, l3] [s0, s1, s2] M Q = sf_wp d sc 165 499 [some (.inr (.inr (.inr ()))), l1, l2, l3] [.inr (.inr (.inr ())), s0, s1, s2] M Q := sf_q rfl rfl
set_option maxRecDepth 100000 in
theorem q165_499 (d : Nat) (x : Int) (l0 l1 l2 : Option sf_V) (s0 s1 s2 s3 : sf_V) (M : sf_M) (sc : Option (List Int)) (Q : Option sf_V → sf_M → Prop) : sf_wp d sc 165 499 [l0, l1, l2, some (.inl x)] [s0, s1, s2, s3] M Q = sf_wp d sc 165 500 [l0, l1, l2, some (.inl x)] [.inl x, s0, s1, s2, s3] M Q := sf_q rfl rfl
set_option maxRecDepth 100000 in
theorem q165_500 (d : Nat) (l0 l1 l2 l3 : Option sf_V) (s0 s1 s2 s3 s4 : sf_V) (M : sf_M) (sc : Option (List Int)) (Q : Option sf_V → sf_M → Prop) : sf_wp d sc 165 500 [l0, l1, l2, l3] [s0, s1, s2, s3, s4] M Q = sf_wp d sc 165 501 [l0, l1, l2, l3] [.inl 3, s0, s1, s2, s3, s4] M Q := sf_q rfl rfl
set_option maxRecDepth 100000 in
theorem q165_501 (d : Nat) (z : Int) (x : Int) (l0 l1 l2 l3 : Option sf_V) (s2 s3 s4 s5 : sf_V) (M : sf_M) (sc : Option (List Int)) (Q : Option sf_V → sf_M → Prop) : sf_wp d sc 165 501 [l0, l1, l2, l3] [.inl z, .inl x, s2, s3, s4, s5] M Q = sf_wp d sc 165 502 [l0, l1, l2, l3] [.inl (sf_w (x + z)), s2, s3, s4, s5] M Q := sf_q rfl rfl
set_option maxRecDepth 100000 in
theorem q165_502 (d : Nat) (x : Int) (l0 l1 l2 l3 : Option sf_V) (s2 s3 s4 : sf_V) (M : sf_M) (xs : List Int) (Q : Option sf_V → sf_M → Prop) : sf_wp d (some xs) 165 502 [l0, l1, l2, l3] [.inl x, .inr (.inr (.inr ())), s2, s3, s4] M Q = ((0 ≤ x ∧ x < xs.length) ∧ sf_wp d (some xs) 165 503 [l0, l1, l2, l3] [.inl (xs.getD x.toNat 0), s2, s3, s4] M Q) := sf_qS_ld rfl
set_option maxRecDepth 100000 in
theorem q165_503 (d : Nat) (a3 : Int) (a2 : Int) (a1 : Int) (a0 : Nat) (l0 l1 l2 l3 : Option sf_V) (V : sf_MV) (sc : Option (List Int)) (Q : Option sf_V → sf_M → Prop) (h : sf_cls a0 = 11) : sf_wp (d + 1) sc 165 503 [l0, l1, l2, l3] [.inl a3, .inl a2, .inl a1, .inr (.inl (some a0))] (sf_E V) Q = sf_wp d none 73 0 [some (.inr (.inl (some a0))), some (.inl a1), some (.inl a2), some (.inl a3)] [] (sf_E V) (fun r M1 => sf_wp (d + 1) sc 165 506 [l0, l1, l2, l3] (r.toList ++ []) M1 Q) := sf_qV h rfl (by decide) ⟨⟨Nat.le_of_ble_eq_true rfl, Nat.le_of_ble_eq_true rfl, Nat.le_of_ble_eq_true rfl⟩, rfl⟩ rfl rfl rfl
set_option maxRecDepth 100000 in
theorem q165_506 (d : Nat) (x : Nat) (l0 l1 l3 : Option sf_V) (s0 : sf_V) (M : sf_M) (sc : Option (List Int)) (Q : Option sf_V → sf_M → Prop) : sf_wp d sc 165 506 [l0, l1, some (.inr (.inl (some x))), l3] [s0] M Q = sf_wp d sc 165 507 [l0, l1, some (.inr (.inl (some x))), l3] [.inr (.inl (some x)), s0] M Q := sf_q rfl rfl
set_option maxRecDepth 100000 in
theorem q165_507 (d : Nat) (l1 l2 l3 : Option sf_V) (s0 s1 : sf_V) (M : sf_M) (sc : Option (List Int)) (Q : Option sf_V → sf_M → Prop) : sf_wp d sc 165 507 [some (.inr (.inr (.inr ()))), l1, l2, l3] [s0, s1] M Q = sf_wp d sc 165 508 [some (.inr (.inr (.inr ()))), l1, l2, l3] [.inr (.inr (.inr ())), s0, s1] M Q := sf_q rfl rfl
set_option maxRecDepth 100000 in
theorem q165_508 (d : Nat) (x : Int) (l0 l1 l2 : Option sf_V) (s0 s1 s2 : sf_V) (M : sf_M) (sc : Option (List Int)) (Q : Option sf_V → sf_M → Prop) : sf_wp d sc 165 508 [l0, l1, l2, some (.inl x)] [s0, s1, s2] M Q = sf_wp d sc 165 509 [l0, l1, l2, some (.inl x)] [.inl x, s0, s1, s2] M Q := sf_q rfl rfl
set_option maxRecDepth 100000 in
theorem q165_509 (d : Nat) (l0 l1 l2 l3 : Option sf_V) (s0 s1 s2 s3 : sf_V) (M : sf_M) (sc : Option (List Int)) (Q : Option sf_V → sf_M → Prop) : sf_wp d sc 165 509 [l0, l1, l2, l3] [s0, s1, s2, s3] M Q = sf_wp d sc 165 510 [l0, l1, l2, l3] [.inl 1, s0, s1, s2, s3] M Q := sf_q rfl rfl
set_option maxRecDepth 100000 in
theorem q165_510 (d : Nat) (z : Int) (x : Int) (l0 l1 l2 l3 : Option sf_V) (s2 s3 s4 : sf_V) (M : sf_M) (sc : Option (List Int)) (Q : Option sf_V → sf_M → Prop) : sf_wp d sc 165 510 [l0, l1, l2, l3] [.inl z, .inl x, s2, s3, s4] M Q = sf_wp d sc 165 511 [l0, l1, l2, l3] [.inl (sf_w (x + z)), s2, s3, s4] M Q := sf_q rfl rfl
set_option maxRecDepth 100000 in
theorem q165_511 (d : Nat) (x : Int) (l0 l1 l2 l3 : Option sf_V) (s2 s3 : sf_V) (M : sf_M) (xs : List Int) (Q : Option sf_V → sf_M → Prop) : sf_wp d (some xs) 165 511 [l0, l1, l2, l3] [.inl x, .inr (.inr (.inr ())), s2, s3] M Q = ((0 ≤ x ∧ x < xs.length) ∧ sf_wp d (some xs) 165 512 [l0, l1, l2, l3] [.inl (xs.getD x.toNat 0), s2, s3] M Q) := sf_qS_ld rfl
set_option maxRecDepth 100000 in
theorem q165_512 (d : Nat) (l1 l2 l3 : Option sf_V) (s0 s1 s2 : sf_V) (M : sf_M) (sc : Option (List Int)) (Q : Option sf_V → sf_M → Prop) : sf_wp d sc 165 512 [some (.inr (.inr (.inr ()))), l1, l2, l3] [s0, s1, s2] M Q = sf_wp d sc 165 513 [some (.inr (.inr (.inr ()))), l1, l2, l3] [.inr (.inr (.inr ())), s0, s1, s2] M Q := sf_q rfl rfl
set_option maxRecDepth 100000 in
theorem q165_513 (d : Nat) (x : Int) (l0 l1 l2 : Option sf_V) (s0 s1 s2 s3 : sf_V) (M : sf_M) (sc : Option (List Int)) (Q : Option sf_V → sf_M → Prop) : sf_wp d sc 165 513 [l0, l1, l2, some (.inl x)] [s0, s1, s2, s3] M Q = sf_wp d sc 165 514 [l0, l1, l2, some (.inl x)] [.inl x, s0, s1, s2, s3] M Q := sf_q rfl rfl
set_option maxRecDepth 100000 in
theorem q165_514 (d : Nat) (l0 l1 l2 l3 : Option sf_V) (s0 s1 s2 s3 s4 : sf_V) (M : sf_M) (sc : Option (List Int)) (Q : Option sf_V → sf_M → Prop) : sf_wp d sc 165 514 [l0, l1, l2, l3] [s0, s1, s2, s3, s4] M Q = sf_wp d sc 165 515 [l0, l1, l2, l3] [.inl 2, s0, s1, s2, s3, s4] M Q := sf_q rfl rfl
set_option maxRecDepth 100000 in
theorem q165_515 (d : Nat) (z : Int) (x : Int) (l0 l1 l2 l3 : Option sf_V) (s2 s3 s4 s5 : sf_V) (M : sf_M) (sc : Option (List Int)) (Q : Option sf_V → sf_M → Prop) : sf_wp d sc 165 515 [l0, l1, l2, l3] [.inl z, .inl x, s2, s3, s4, s5] M Q = sf_wp d sc 165 516 [l0, l1, l2, l3] [.inl (sf_w (x + z)), s2, s3, s4, s5] M Q := sf_q rfl rfl
set_option maxRecDepth 100000 in
theorem q165_516 (d : Nat) (x : Int) (l0 l1 l2 l3 : Option sf_V) (s2 s3 s4 : sf_V) (M : sf_M) (xs : List Int) (Q : Option sf_V → sf_M → Prop) : sf_wp d (some xs) 165 516 [l0, l1, l2, l3] [.inl x, .inr (.inr (.inr ())), s2, s3, s4] M Q = ((0 ≤ x ∧ x < xs.length) ∧ sf_wp d (some xs) 165 517 [l0, l1, l2, l3] [.inl (xs.getD x.toNat 0), s2, s3, s4] M Q) := sf_qS_ld rfl
set_option maxRecDepth 100000 in
theorem q165_517 (d : Nat) (l1 l2 l3 : Option sf_V) (s0 s1 s2 s3 : sf_V) (M : sf_M) (sc : Option (List Int)) (Q : Option sf_V → sf_M → Prop) : sf_wp d sc 165 517 [some (.inr (.inr (.inr ()))), l1, l2, l3] [s0, s1, s2, s3] M Q = sf_wp d sc 165 518 [some (.inr (.inr (.inr ()))), l1, l2, l3] [.inr (.inr (.inr ())), s0, s1, s2, s3] M Q := sf_q rfl rfl
set_option maxRecDepth 100000 in
theorem q165_518 (d : Nat) (x : Int) (l0 l1 l2 : Option sf_V) (s0 s1 s2 s3 s4 : sf_V) (M : sf_M) (sc : Option (List Int)) (Q : Option sf_V → sf_M → Prop) : sf_wp d sc 165 518 [l0, l1, l2, some (.inl x)] [s0, s1, s2, s3, s4] M Q = sf_wp d sc 165 519 [l0, l1, l2, some (.inl x)] [.inl x, s0, s1, s2, s3, s4] M Q := sf_q rfl rfl
set_option maxRecDepth 100000 in
theorem q165_519 (d : Nat) (l0 l1 l2 l3 : Option sf_V) (s0 s1 s2 s3 s4 s5 : sf_V) (M : sf_M) (sc : Option (List Int)) (Q : Option sf_V → sf_M → Prop) : sf_wp d sc 165 519 [l0, l1, l2, l3] [s0, s1, s2, s3, s4, s5] M Q = sf_wp d sc 165 520 [l0, l1, l2, l3] [.inl 3, s0, s1, s2, s3, s4, s5] M Q := sf_q rfl rfl
set_option maxRecDepth 100000 in
theorem q165_520 (d : Nat) (z : Int) (x : Int) (l0 l1 l2 l3 : Option sf_V) (s2 s3 s4 s5 s6 : sf_V) (M : sf_M) (sc : Option (List Int)) (Q : Option sf_V → sf_M → Prop) : sf_wp d sc 165 520 [l0, l1, l2, l3] [.inl z, .inl x, s2, s3, s4, s5, s6] M Q = sf_wp d sc 165 521 [l0, l1, l2, l3] [.inl (sf_w (x + z)), s2, s3, s4, s5, s6] M Q := sf_q rfl rfl
set_option maxRecDepth 100000 in
theorem q165_521 (d : Nat) (x : Int) (l0 l1 l2 l3 : Option sf_V) (s2 s3 s4 s5 : sf_V) (M : sf_M) (xs : List Int) (Q : Option sf_V → sf_M → Prop) : sf_wp d (some xs) 165 521 [l0, l1, l2, l3] [.inl x, .inr (.inr (.inr ())), s2, s3, s4, s5] M Q = ((0 ≤ x ∧ x < xs.length) ∧ sf_wp d (some xs) 165 522 [l0, l1, l2, l3] [.inl (xs.getD x.toNat 0), s2, s3, s4, s5] M Q) := sf_qS_ld rfl
set_option maxRecDepth 100000 in
theorem q165_522 (d : Nat) (a3 : Int) (a2 : Int) (a1 : Int) (a0 : Nat) (l0 l1 l2 l3 : Option sf_V) (s4 : sf_V) (V : sf_MV) (sc : Option (List Int)) (Q : Option sf_V → sf_M → Prop) (h : sf_cls a0 = 12) : sf_wp (d + 1) sc 165 522 [l0, l1, l2, l3] [.inl a3, .inl a2, .inl a1, .inr (.inl (some a0)), s4] (sf_E V) Q = sf_wp d none 142 0 [some (.inr (.inl (some a0))), some (.inl a1), some (.inl a2), some (.inl a3)] [] (sf_E V) (fun r M1 => sf_wp (d + 1) sc 165 525 [l0, l1, l2, l3] (r.toList ++ [s4]) M1 Q) := sf_qV h rfl (by decide) ⟨⟨Nat.le_of_ble_eq_true rfl, Nat.le_of_ble_eq_true rfl, Nat.le_of_ble_eq_true rfl⟩, rfl⟩ rfl rfl rfl
set_option maxRecDepth 100000 in
theorem q165_525 (d : Nat) (z : Int) (x : Int) (l0 l1 l2 l3 : Option sf_V) (M : sf_M) (sc : Option (List Int)) (Q : Option sf_V → sf_M → Prop) : sf_wp d sc 165 525 [l0, l1, l2, l3] [.inl z, .inl x] M Q = if x = z then sf_wp d sc 165 968 [l0, l1, l2, l3] [] M Q else sf_wp d sc 165 528 [l0, l1, l2, l3] [] M Q := sf_qic_eq rfl
set_option maxRecDepth 100000 in
theorem q165_528 (d : Nat) (l0 l1 l2 l3 : Option sf_V) (M : sf_M) (sc : Option (List Int)) (Q : Option sf_V → sf_M → Prop) : sf_wp d sc 165 528 [l0, l1, l2, l3] [] M Q = sf_wp d sc 165 529 [l0, l1, l2, l3] [.inl 0] M Q := sf_q rfl rfl
set_option maxRecDepth 100000 in
theorem q165_529 (d : Nat) (x : Int) (l0 l1 l2 l3 : Option sf_V) (M : sf_M) (sc : Option (List Int)) (Q : Option sf_V → sf_M → Prop) : sf_wp d sc 165 529 [l0, l1, l2, l3] [.inl x] M Q = ((x = 0 ∨ x = 1) ∧ Q (some (.inl x)) M) := sf_qRz rfl
set_option maxRecDepth 100000 in
theorem q165_530 (d : Nat) (x : Nat) (l0 l2 l3 : Option sf_V) (M : sf_M) (sc : Option (List Int)) (Q : Option sf_V → sf_M → Prop) : sf_wp d sc 165 530 [l0, some (.inr (.inl (some x))), l2, l3] [] M Q = sf_wp d sc 165 531 [l0, some (.inr (.inl (some x))), l2, l3] [.inr (.inl (some x))] M Q := sf_q rfl rfl
set_option maxRecDepth 100000 in
theorem q165_531 (d : Nat) (l1 l2 l3 : Option sf_V) (s0 : sf_V) (M : sf_M) (sc : Option (List Int)) (Q : Option sf_V → sf_M → Prop) : sf_wp d sc 165 531 [some (.inr (.inr (.inr ()))), l1, l2, l3] [s0] M Q = sf_wp d sc 165 532 [some (.inr (.inr (.inr ()))), l1, l2, l3] [.inr (.inr (.inr ())), s0] M Q := sf_q rfl rfl
set_option maxRecDepth 100000 in
theorem q165_532 (d : Nat) (x : Int) (l0 l1 l2 : Option sf_V) (s0 s1 : sf_V) (M : sf_M) (sc : Option (List Int)) (Q : Option sf_V → sf_M → Prop) : sf_wp d sc 165 532 [l0, l1, l2, some (.inl x)] [s0, s1] M Q = sf_wp d sc 165 533 [l0, l1, l2, some (.inl x)] [.inl x, s0, s1] M Q := sf_q rfl rfl
set_option maxRecDepth 100000 in
theorem q165_533 (d : Nat) (l0 l1 l2 l3 : Option sf_V) (s0 s1 s2 : sf_V) (M : sf_M) (sc : Option (List Int)) (Q : Option sf_V → sf_M → Prop) : sf_wp d sc 165 533 [l0, l1, l2, l3] [s0, s1, s2] M Q = sf_wp d sc 165 534 [l0, l1, l2, l3] [.inl 1, s0, s1, s2] M Q := sf_q rfl rfl
set_option maxRecDepth 100000 in
theorem q165_534 (d : Nat) (z : Int) (x : Int) (l0 l1 l2 l3 : Option sf_V) (s2 s3 : sf_V) (M : sf_M) (sc : Option (List Int)) (Q : Option sf_V → sf_M → Prop) : sf_wp d sc 165 534 [l0, l1, l2, l3] [.inl z, .inl x, s2, s3] M Q = sf_wp d sc 165 535 [l0, l1, l2, l3] [.inl (sf_w (x + z)), s2, s3] M Q := sf_q rfl rfl
set_option maxRecDepth 100000 in
theorem q165_535 (d : Nat) (x : Int) (l0 l1 l2 l3 : Option sf_V) (s2 : sf_V) (M : sf_M) (xs : List Int) (Q : Option sf_V → sf_M → Prop) : sf_wp d (some xs) 165 535 [l0, l1, l2, l3] [.inl x, .inr (.inr (.inr ())), s2] M Q = ((0 ≤ x ∧ x < xs.length) ∧ sf_wp d (some xs) 165 536 [l0, l1, l2, l3] [.inl (xs.getD x.toNat 0), s2] M Q) := sf_qS_ld rfl
set_option maxRecDepth 100000 in
theorem q165_536 (d : Nat) (l1 l2 l3 : Option sf_V) (s0 s1 : sf_V) (M : sf_M) (sc : Option (List Int)) (Q : Option sf_V → sf_M → Prop) : sf_wp d sc 165 536 [some (.inr (.inr (.inr ()))), l1, l2, l3] [s0, s1] M Q = sf_wp d sc 165 537 [some (.inr (.inr (.inr ()))), l1, l2, l3] [.inr (.inr (.inr ())), s0, s1] M Q := sf_q rfl rfl
set_option maxRecDepth 100000 in
theorem q165_537 (d : Nat) (x : Int) (l0 l1 l2 : Option sf_V) (s0 s1 s2 : sf_V) (M : sf_M) (sc : Option (List Int)) (Q : Option sf_V → sf_M → Prop) : sf_wp d sc 165 537 [l0, l1, l2, some (.inl x)] [s0, s1, s2] M Q = sf_wp d sc 165 538 [l0, l1, l2, some (.inl x)] [.inl x, s0, s1, s2] M Q := sf_q rfl rfl
set_option maxRecDepth 100000 in
theorem q165_538 (d : Nat) (l0 l1 l2 l3 : Option sf_V) (s0 s1 s2 s3 : sf_V) (M : sf_M) (sc : Option (List Int)) (Q : Option sf_V → sf_M → Prop) : sf_wp d sc 165 538 [l0, l1, l2, l3] [s0, s1, s2, s3] M Q = sf_wp d sc 165 539 [l0, l1, l2, l3] [.inl 2, s0, s1, s2, s3] M Q := sf_q rfl rfl
set_option maxRecDepth 100000 in
theorem q165_539 (d : Nat) (z : Int) (x : Int) (l0 l1 l2 l3 : Option sf_V) (s2 s3 s4 : sf_V) (M : sf_M) (sc : Option (List Int)) (Q : Option sf_V → sf_M → Prop) : sf_wp d sc 165 539 [l0, l1, l2, l3] [.inl z, .inl x, s2, s3, s4] M Q = sf_wp d sc 165 540 [l0, l1, l2, l3] [.inl (sf_w (x + z)), s2, s3, s4] M Q := sf_q rfl rfl
set_option maxRecDepth 100000 in
theorem q165_540 (d : Nat) (x : Int) (l0 l1 l2 l3 : Option sf_V) (s2 s3 : sf_V) (M : sf_M) (xs : List Int) (Q : Option sf_V → sf_M → Prop) : sf_wp d (some xs) 165 540 [l0, l1, l2, l3] [.inl x, .inr (.inr (.inr ())), s2, s3] M Q = ((0 ≤ x ∧ x < xs.length) ∧ sf_wp d (some xs) 165 541 [l0, l1, l2, l3] [.inl (xs.getD x.toNat 0), s2, s3] M Q) := sf_qS_ld rfl
set_option maxRecDepth 100000 in
theorem q165_541 (d : Nat) (a2 : Int) (a1 : Int) (a0 : Nat) (l0 l1 l2 l3 : Option sf_V) (V : sf_MV) (sc : Option (List Int)) (Q : Option sf_V → sf_M → Prop) (h : sf_cls a0 = 11) : sf_wp (d + 1) sc 165 541 [l0, l1, l2, l3] [.inl a2, .inl a1, .inr (.inl (some a0))] (sf_E V) Q = sf_wp d none 74 0 [some (.inr (.inl (some a0))), some (.inl a1), some (.inl a2)] [] (sf_E V) (fun r M1 => sf_wp (d + 1) sc 165 544 [l0, l1, l2, l3] (r.toList ++ []) M1 Q) := sf_qV h rfl (by decide) ⟨⟨Nat.le_of_ble_eq_true rfl, Nat.le_of_ble_eq_true rfl, Nat.le_of_ble_eq_true rfl⟩, rfl⟩ rfl rfl rfl
set_option maxRecDepth 100000 in
theorem q165_544 (d : Nat) (x : Nat) (l0 l1 l3 : Option sf_V) (s0 : sf_V) (M : sf_M) (sc : Option (List Int)) (Q : Option sf_V → sf_M → Prop) : sf_wp d sc 165 544 [l0, l1, some (.inr (.inl (some x))), l3] [s0] M Q = sf_wp d sc 165 545 [l0, l1, some (.inr (.inl (some x))), l3] [.inr (.inl (some x)), s0] M Q := sf_q rfl rfl
set_option maxRecDepth 100000 in
theorem q165_545 (d : Nat) (l1 l2 l3 : Option sf_V) (s0 s1 : sf_V) (M : sf_M) (sc : Option (List Int)) (Q : Option sf_V → sf_M → Prop) : sf_wp d sc 165 545 [some (.inr (.inr (.inr ()))), l1, l2, l3] [s0, s1] M Q = sf_wp d sc 165 546 [some (.inr (.inr (.inr ()))), l1, l2, l3] [.inr (.inr (.inr ())), s0, s1] M Q := sf_q rfl rfl
set_option maxRecDepth 100000 in
theorem q165_546 (d : Nat) (x : Int) (l0 l1 l2 : Option sf_V) (s0 s1 s2 : sf_V) (M : sf_M) (sc : Option (List Int)) (Q : Option sf_V → sf_M → Prop) : sf_wp d sc 165 546 [l0, l1, l2, some (.inl x)] [s0, s1, s2] M Q = sf_wp d sc 165 547 [l0, l1, l2, some (.inl x)] [.inl x, s0, s1, s2] M Q := sf_q rfl rfl
set_option maxRecDepth 100000 in
theorem q165_547 (d : Nat) (l0 l1 l2 l3 : Option sf_V) (s0 s1 s2 s3 : sf_V) (M : sf_M) (sc : Option (List Int)) (Q : Option sf_V → sf_M → Prop) : sf_wp d sc 165 547 [l0, l1, l2, l3] [s0, s1, s2, s3] M Q = sf_wp d sc 165 548 [l0, l1, l2, l3] [.inl 1, s0, s1, s2, s3] M Q := sf_q rfl rfl
set_option maxRecDepth 100000 in
theorem q165_548 (d : Nat) (z : Int) (x : Int) (l0 l1 l2 l3 : Option sf_V) (s2 s3 s4 : sf_V) (M : sf_M) (sc : Option (List Int)) (Q : Option sf_V → sf_M → Prop) : sf_wp d sc 165 548 [l0, l1, l2, l3] [.inl z, .inl x, s2, s3, s4] M Q = sf_wp d sc 165 549 [l0, l1, l2, l3] [.inl (sf_w (x + z)), s2, s3, s4] M Q := sf_q rfl rfl
set_option maxRecDepth 100000 in
theorem q165_549 (d : Nat) (x : Int) (l0 l1 l2 l3 : Option sf_V) (s2 s3 : sf_V) (M : sf_M) (xs : List Int) (Q : Option sf_V → sf_M → Prop) : sf_wp d (some xs) 165 549 [l0, l1, l2, l3] [.inl x, .inr (.inr (.inr ())), s2, s3] M Q = ((0 ≤ x ∧ x < xs.length) ∧ sf_wp d (some xs) 165 550 [l0, l1, l2, l3] [.inl (xs.getD x.toNat 0), s2, s3] M Q) := sf_qS_ld rfl
set_option maxRecDepth 100000 in
theorem q165_550 (d : Nat) (l1 l2 l3 : Option sf_V) (s0 s1 s2 : sf_V) (M : sf_M) (sc : Option (List Int)) (Q : Option sf_V → sf_M → Prop) : sf_wp d sc 165 550 [some (.inr (.inr (.inr ()))), l1, l2, l3] [s0, s1, s2] M Q = sf_wp d sc 165 551 [some (.inr (.inr (.inr ()))), l1, l2, l3] [.inr (.inr (.inr ())), s0, s1, s2] M Q := sf_q rfl rfl
set_option maxRecDepth 100000 in
theorem q165_551 (d : Nat) (x : Int) (l0 l1 l2 : Option sf_V) (s0 s1 s2 s3 : sf_V) (M : sf_M) (sc : Option (List Int)) (Q : Option sf_V → sf_M → Prop) : sf_wp d sc 165 551 [l0, l1, l2, some (.inl x)] [s0, s1, s2, s3] M Q = sf_wp d sc 165 552 [l0, l1, l2, some (.inl x)] [.inl x, s0, s1, s2, s3] M Q := sf_q rfl rfl
set_option maxRecDepth 100000 in
theorem q165_552 (d : Nat) (l0 l1 l2 l3 : Option sf_V) (s0 s1 s2 s3 s4 : sf_V) (M : sf_M) (sc : Option (List Int)) (Q : Option sf_V → sf_M → Prop) : sf_wp d sc 165 552 [l0, l1, l2, l3] [s0, s1, s2, s3, s4] M Q = sf_wp d sc 165 553 [l0, l1, l2, l3] [.inl 2, s0, s1, s2, s3, s4] M Q := sf_q rfl rfl
set_option maxRecDepth 100000 in
theorem q165_553 (d : Nat) (z : Int) (x : Int) (l0 l1 l2 l3 : Option sf_V) (s2 s3 s4 s5 : sf_V) (M : sf_M) (sc : Option (List Int)) (Q : Option sf_V → sf_M → Prop) : sf_wp d sc 165 553 [l0, l1, l2, l3] [.inl z, .inl x, s2, s3, s4, s5] M Q = sf_wp d sc 165 554 [l0, l1, l2, l3] [.inl (sf_w (x + z)), s2, s3, s4, s5] M Q := sf_q rfl rfl
set_option maxRecDepth 100000 in
theorem q165_554 (d : Nat) (x : Int) (l0 l1 l2 l3 : Option sf_V) (s2 s3 s4 : sf_V) (M : sf_M) (xs : List Int) (Q : Option sf_V → sf_M → Prop) : sf_wp d (some xs) 165 554 [l0, l1, l2, l3] [.inl x, .inr (.inr (.inr ())), s2, s3, s4] M Q = ((0 ≤ x ∧ x < xs.length) ∧ sf_wp d (some xs) 165 555 [l0, l1, l2, l3] [.inl (xs.getD x.toNat 0), s2, s3, s4] M Q) := sf_qS_ld rfl
set_option maxRecDepth 100000 in
theorem q165_555 (d : Nat) (a2 : Int) (a1 : Int) (a0 : Nat) (l0 l1 l2 l3 : Option sf_V) (s3 : sf_V) (V : sf_MV) (sc : Option (List Int)) (Q : Option sf_V → sf_M → Prop) (h : sf_cls a0 = 12) : sf_wp (d + 1) sc 165 555 [l0, l1, l2, l3] [.inl a2, .inl a1, .inr (.inl (some a0)), s3] (sf_E V) Q = sf_wp d none 143 0 [some (.inr (.inl (some a0))), some (.inl a1), some (.inl a2)] [] (sf_E V) (fun r M1 => sf_wp (d + 1) sc 165 558 [l0, l1, l2, l3] (r.toList ++ [s3]) M1 Q) := sf_qV h rfl (by decide) ⟨⟨Nat.le_of_ble_eq_true rfl, Nat.le_of_ble_eq_true rfl, Nat.le_of_ble_eq_true rfl⟩, rfl⟩ rfl rfl rfl
set_option maxRecDepth 100000 in
theorem q165_558 (d : Nat) (z : Int) (x : Int) (l0 l1 l2 l3 : Option sf_V) (M : sf_M) (sc : Option (List Int)) (Q : Option sf_V → sf_M → Prop) : sf_wp d sc 165 558 [l0, l1, l2, l3] [.inl z, .inl x] M Q = if x = z then sf_wp d sc 165 968 [l0, l1, l2, l3] [] M Q else sf_wp d sc 165 561 [l0, l1, l2, l3] [] M Q := sf_qic_eq rfl
set_option maxRecDepth 100000 in
theorem q165_561 (d : Nat) (l0 l1 l2 l3 : Option sf_V) (M : sf_M) (sc : Option (List Int)) (Q : Option sf_V → sf_M → Prop) : sf_wp d sc 165 561 [l0, l1, l2, l3] [] M Q = sf_wp d sc 165 562 [l0, l1, l2, l3] [.inl 0] M Q := sf_q rfl rfl
set_option maxRecDepth 100000 in
theorem q165_562 (d : Nat) (x : Int) (l0 l1 l2 l3 : Option sf_V) (M : sf_M) (sc : Option (List Int)) (Q : Option sf_V → sf_M → Prop) : sf_wp d sc 165 562 [l0, l1, l2, l3] [.inl x] M Q = ((x = 0 ∨ x = 1) ∧ Q (some (.inl x)) M) := sf_qRz rfl
set_option maxRecDepth 100000 in
theorem q165_563 (d : Nat) (x : Nat) (l0 l2 l3 : Option sf_V) (M : sf_M) (sc : Option (List Int)) (Q : Option sf_V → sf_M → Prop) : sf_wp d sc 165 563 [l0, some (.inr (.inl (some x))), l2, l3] [] M Q = sf_wp d sc 165 564 [l0, some (.inr (.inl (some x))), l2, l3] [.inr (.inl (some x))] M Q := sf_q rfl rfl
set_option maxRecDepth 100000 in
theorem q165_564 (d : Nat) (l1 l2 l3 : Option sf_V) (s0 : sf_V) (M : sf_M) (sc : Option (List Int)) (Q : Option sf_V → sf_M → Prop) : sf_wp d sc 165 564 [some (.inr (.inr (.inr ()))), l1, l2, l3] [s0] M Q = sf_wp d sc 165 565 [some (.inr (.inr (.inr ()))), l1, l2, l3] [.inr (.inr (.inr ())), s0] M Q := sf_q rfl rfl
set_option maxRecDepth 100000 in
theorem q165_565 (d : Nat) (x : Int) (l0 l1 l2 : Option sf_V) (s0 s1 : sf_V) (M : sf_M) (sc : Option (List Int)) (Q : Option sf_V → sf_M → Prop) : sf_wp d sc 165 565 [l0, l1, l2, some (.inl x)] [s0, s1] M Q = sf_wp d sc 165 566 [l0, l1, l2, some (.inl x)] [.inl x, s0, s1] M Q := sf_q rfl rfl
set_option maxRecDepth 100000 in
theorem q165_566 (d : Nat) (l0 l1 l2 l3 : Option sf_V) (s0 s1 s2 : sf_V) (M : sf_M) (sc : Option (List Int)) (Q : Option sf_V → sf_M → Prop) : sf_wp d sc 165 566 [l0, l1, l2, l3] [s0, s1, s2] M Q = sf_wp d sc 165 567 [l0, l1, l2, l3] [.inl 1, s0, s1, s2] M Q := sf_q rfl rfl
set_option maxRecDepth 100000 in
theorem q165_567 (d : Nat) (z : Int) (x : Int) (l0 l1 l2 l3 : Option sf_V) (s2 s3 : sf_V) (M : sf_M) (sc : Option (List Int)) (Q : Option sf_V → sf_M → Prop) : sf_wp d sc 165 567 [l0, l1, l2, l3] [.inl z, .inl x, s2, s3] M Q = sf_wp d sc 165 568 [l0, l1, l2, l3] [.inl (sf_w (x + z)), s2, s3] M Q := sf_q rfl rfl
set_option maxRecDepth 100000 in
theorem q165_568 (d : Nat) (x : Int) (l0 l1 l2 l3 : Option sf_V) (s2 : sf_V) (M : sf_M) (xs : List Int) (Q : Option sf_V → sf_M → Prop) : sf_wp d (some xs) 165 568 [l0, l1, l2, l3] [.inl x, .inr (.inr (.inr ())), s2] M Q = ((0 ≤ x ∧ x < xs.length) ∧ sf_wp d (some xs) 165 569 [l0, l1, l2, l3] [.inl (xs.getD x.toNat 0), s2] M Q) := sf_qS_ld rfl
set_option maxRecDepth 100000 in
theorem q165_569 (d : Nat) (l1 l2 l3 : Option sf_V) (s0 s1 : sf_V) (M : sf_M) (sc : Option (List Int)) (Q : Option sf_V → sf_M → Prop) : sf_wp d sc 165 569 [some (.inr (.inr (.inr ()))), l1, l2, l3] [s0, s1] M Q = sf_wp d sc 165 570 [some (.inr (.inr (.inr ()))), l1, l2, l3] [.inr (.inr (.inr ())), s0, s1] M Q := sf_q rfl rfl
set_option maxRecDepth 100000 in
theorem q165_570 (d : Nat) (x : Int) (l0 l1 l2 : Option sf_V) (s0 s1 s2 : sf_V) (M : sf_M) (sc : Option (List Int)) (Q : Option sf_V → sf_M → Prop) : sf_wp d sc 165 570 [l0, l1, l2, some (.inl x)] [s0, s1, s2] M Q = sf_wp d sc 165 571 [l0, l1, l2, some (.inl x)] [.inl x, s0, s1, s2] M Q := sf_q rfl rfl
set_option maxRecDepth 100000 in
theorem q165_571 (d : Nat) (l0 l1 l2 l3 : Option sf_V) (s0 s1 s2 s3 : sf_V) (M : sf_M) (sc : Option (List Int)) (Q : Option sf_V → sf_M → Prop) : sf_wp d sc 165 571 [l0, l1, l2, l3] [s0, s1, s2, s3] M Q = sf_wp d sc 165 572 [l0, l1, l2, l3] [.inl 2, s0, s1, s2, s3] M Q := sf_q rfl rfl
set_option maxRecDepth 100000 in
theorem q165_572 (d : Nat) (z : Int) (x : Int) (l0 l1 l2 l3 : Option sf_V) (s2 s3 s4 : sf_V) (M : sf_M) (sc : Option (List Int)) (Q : Option sf_V → sf_M → Prop) : sf_wp d sc 165 572 [l0, l1, l2, l3] [.inl z, .inl x, s2, s3, s4] M Q = sf_wp d sc 165 573 [l0, l1, l2, l3] [.inl (sf_w (x + z)), s2, s3, s4] M Q := sf_q rfl rfl
set_option maxRecDepth 100000 in
theorem q165_573 (d : Nat) (x : Int) (l0 l1 l2 l3 : Option sf_V) (s2 s3 : sf_V) (M : sf_M) (xs : List Int) (Q : Option sf_V → sf_M → Prop) : sf_wp d (some xs) 165 573 [l0, l1, l2, l3] [.inl x, .inr (.inr (.inr ())), s2, s3] M Q = ((0 ≤ x ∧ x < xs.length) ∧ sf_wp d (some xs) 165 574 [l0, l1, l2, l3] [.inl (xs.getD x.toNat 0), s2, s3] M Q) := sf_qS_ld rfl
set_option maxRecDepth 100000 in
theorem q165_574 (d : Nat) (l1 l2 l3 : Option sf_V) (s0 s1 s2 : sf_V) (M : sf_M) (sc : Option (List Int)) (Q : Option sf_V → sf_M → Prop) : sf_wp d sc 165 574 [some (.inr (.inr (.inr ()))), l1, l2, l3] [s0, s1, s2] M Q = sf_wp d sc 165 575 [some (.inr (.inr (.inr ()))), l1, l2, l3] [.inr (.inr (.inr ())), s0, s1, s2] M Q := sf_q rfl rfl
set_option maxRecDepth 100000 in
theorem q165_575 (d : Nat) (x : Int) (l0 l1 l2 : Option sf_V) (s0 s1 s2 s3 : sf_V) (M : sf_M) (sc : Option (List Int)) (Q : Option sf_V → sf_M → Prop) : sf_wp d sc 165 575 [l0, l1, l2, some (.inl x)] [s0, s1, s2, s3] M Q = sf_wp d sc 165 576 [l0, l1, l2, some (.inl x)] [.inl x, s0, s1, s2, s3] M Q := sf_q rfl rfl
set_option maxRecDepth 100000 in
theorem q165_576 (d : Nat) (l0 l1 l2 l3 : Option sf_V) (s0 s1 s2 s3 s4 : sf_V) (M : sf_M) (sc : Option (List Int)) (Q : Option sf_V → sf_M → Prop) : sf_wp d sc 165 576 [l0, l1, l2, l3] [s0, s1, s2, s3, s4] M Q = sf_wp d sc 165 577 [l0, l1, l2, l3] [.inl 3, s0, s1, s2, s3, s4] M Q := sf_q rfl rfl
set_option maxRecDepth 100000 in
theorem q165_577 (d : Nat) (z : Int) (x : Int) (l0 l1 l2 l3 : Option sf_V) (s2 s3 s4 s5 : sf_V) (M : sf_M) (sc : Option (List Int)) (Q : Option sf_V → sf_M → Prop) : sf_wp d sc 165 577 [l0, l1, l2, l3] [.inl z, .inl x, s2, s3, s4, s5] M Q = sf_wp d sc 165 578 [l0, l1, l2, l3] [.inl (sf_w (x + z)), s2, s3, s4, s5] M Q := sf_q rfl rfl
set_option maxRecDepth 100000 in
theorem q165_578 (d : Nat) (x : Int) (l0 l1 l2 l3 : Option sf_V) (s2 s3 s4 : sf_V) (M : sf_M) (xs : List Int) (Q : Option sf_V → sf_M → Prop) : sf_wp d (some xs) 165 578 [l0, l1, l2, l3] [.inl x, .inr (.inr (.inr ())), s2, s3, s4] M Q = ((0 ≤ x ∧ x < xs.length) ∧ sf_wp d (some xs) 165 579 [l0, l1, l2, l3] [.inl (xs.getD x.toNat 0), s2, s3, s4] M Q) := sf_qS_ld rfl
set_option maxRecDepth 100000 in
theorem q165_579 (d : Nat) (l1 l2 l3 : Option sf_V) (s0 s1 s2 s3 : sf_V) (M : sf_M) (sc : Option (List Int)) (Q : Option sf_V → sf_M → Prop) : sf_wp d sc 165 579 [some (.inr (.inr (.inr ()))), l1, l2, l3] [s0, s1, s2, s3] M Q = sf_wp d sc 165 580 [some (.inr (.inr (.inr ()))), l1, l2, l3] [.inr (.inr (.inr ())), s0, s1, s2, s3] M Q := sf_q rfl rfl
set_option maxRecDepth 100000 in
theorem q165_580 (d : Nat) (x : Int) (l0 l1 l2 : Option sf_V) (s0 s1 s2 s3 s4 : sf_V) (M : sf_M) (sc : Option (List Int)) (Q : Option sf_V → sf_M → Prop) : sf_wp d sc 165 580 [l0, l1, l2, some (.inl x)] [s0, s1, s2, s3, s4] M Q = sf_wp d sc 165 581 [l0, l1, l2, some (.inl x)] [.inl x, s0, s1, s2, s3, s4] M Q := sf_q rfl rfl
set_option maxRecDepth 100000 in
theorem q165_581 (d : Nat) (l0 l1 l2 l3 : Option sf_V) (s0 s1 s2 s3 s4 s5 : sf_V) (M : sf_M) (sc : Option (List Int)) (Q : Option sf_V → sf_M → Prop) : sf_wp d sc 165 581 [l0, l1, l2, l3] [s0, s1, s2, s3, s4, s5] M Q = sf_wp d sc 165 582 [l0, l1, l2, l3] [.inl 4, s0, s1, s2, s3, s4, s5] M Q := sf_q rfl rfl
set_option maxRecDepth 100000 in
theorem q165_582 (d : Nat) (z : Int) (x : Int) (l0 l1 l2 l3 : Option sf_V) (s2 s3 s4 s5 s6 : sf_V) (M : sf_M) (sc : Option (List Int)) (Q : Option sf_V → sf_M → Prop) : sf_wp d sc 165 582 [l0, l1, l2, l3] [.inl z, .inl x, s2, s3, s4, s5, s6] M Q = sf_wp d sc 165 583 [l0, l1, l2, l3] [.inl (sf_w (x + z)), s2, s3, s4, s5, s6] M Q := sf_q rfl rfl
set_option maxRecDepth 100000 in
theorem q165_583 (d : Nat) (x : Int) (l0 l1 l2 l3 : Option sf_V) (s2 s3 s4 s5 : sf_V) (M : sf_M) (xs : List Int) (Q : Option sf_V → sf_M → Prop) : sf_wp d (some xs) 165 583 [l0, l1, l2, l3] [.inl x, .inr (.inr (.inr ())), s2, s3, s4, s5] M Q = ((0 ≤ x ∧ x < xs.length) ∧ sf_wp d (some xs) 165 584 [l0, l1, l2, l3] [.inl (xs.getD x.toNat 0), s2, s3, s4, s5] M Q) := sf_qS_ld rfl
set_option maxRecDepth 100000 in
theorem q165_584 (d : Nat) (a4 : Int) (a3 : Int) (a2 : Int) (a1 : Int) (a0 : Nat) (l0 l1 l2 l3 : Option sf_V) (V : sf_MV) (sc : Option (List Int)) (Q : Option sf_V → sf_M → Prop) (h : sf_cls a0 = 11) : sf_wp (d + 1) sc 165 584 [l0, l1, l2, l3] [.inl a4, .inl a3, .inl a2, .inl a1, .inr (.inl (some a0))] (sf_E V) Q = sf_wp d none 75 0 [some (.inr (.inl (some a0))), some (.inl a1), some (.inl a2), some (.inl a3), some (.inl a4)] [] (sf_E V) (fun r M1 => sf_wp (d + 1) sc 165 587 [l0, l1, l2, l3] (r.toList ++ []) M1 Q) := sf_qV h rfl (by decide) ⟨⟨Nat.le_of_ble_eq_true rfl, Nat.le_of_ble_eq_true rfl, Nat.le_of_ble_eq_true rfl⟩, rfl⟩ rfl rfl rfl
set_option maxRecDepth 100000 in
theorem q165_587 (d : Nat) (x : Nat) (l0 l1 l3 : Option sf_V) (s0 : sf_V) (M : sf_M) (sc : Option (List Int)) (Q : Option sf_V → sf_M → Prop) : sf_wp d sc 165 587 [l0, l1, some (.inr (.inl (some x))), l3] [s0] M Q = sf_wp d sc 165 588 [l0, l1, some (.inr (.inl (some x))), l3] [.inr (.inl (some x)), s0] M Q := sf_q rfl rfl
set_option maxRecDepth 100000 in
theorem q165_588 (d : Nat) (l1 l2 l3 : Option sf_V) (s0 s1 : sf_V) (M : sf_M) (sc : Option (List Int)) (Q : Option sf_V → sf_M → Prop) : sf_wp d sc 165 588 [some (.inr (.inr (.inr ()))), l1, l2, l3] [s0, s1] M Q = sf_wp d sc 165 589 [some (.inr (.inr (.inr ()))), l1, l2, l3] [.inr (.inr (.inr ())), s0, s1] M Q := sf_q rfl rfl
set_option maxRecDepth 100000 in
theorem q165_589 (d : Nat) (x : Int) (l0 l1 l2 : Option sf_V) (s0 s1 s2 : sf_V) (M : sf_M) (sc : Option (List Int)) (Q : Option sf_V → sf_M → Prop) : sf_wp d sc 165 589 [l0, l1, l2, some (.inl x)] [s0, s1, s2] M Q = sf_wp d sc 165 590 [l0, l1, l2, some (.inl x)] [.inl x, s0, s1, s2] M Q := sf_q rfl rfl
set_option maxRecDepth 100000 in
theorem q165_590 (d : Nat) (l0 l1 l2 l3 : Option sf_V) (s0 s1 s2 s3 : sf_V) (M : sf_M) (sc : Option (List Int)) (Q : Option sf_V → sf_M → Prop) : sf_wp d sc 165 590 [l0, l1, l2, l3] [s0, s1, s2, s3] M Q = sf_wp d sc 165 591 [l0, l1, l2, l3] [.inl 1, s0, s1, s2, s3] M Q := sf_q rfl rfl
set_option maxRecDepth 100000 in
theorem q165_591 (d : Nat) (z : Int) (x : Int) (l0 l1 l2 l3 : Option sf_V) (s2 s3 s4 : sf_V) (M : sf_M) (sc : Option (List Int)) (Q : Option sf_V → sf_M → Prop) : sf_wp d sc 165 591 [l0, l1, l2, l3] [.inl z, .inl x, s2, s3, s4] M Q = sf_wp d sc 165 592 [l0, l1, l2, l3] [.inl (sf_w (x + z)), s2, s3, s4] M Q := sf_q rfl rfl
set_option maxRecDepth 100000 in
theorem q165_592 (d : Nat) (x : Int) (l0 l1 l2 l3 : Option sf_V) (s2 s3 : sf_V) (M : sf_M) (xs : List Int) (Q : Option sf_V → sf_M → Prop) : sf_wp d (some xs) 165 592 [l0, l1, l2, l3] [.inl x, .inr (.inr (.inr ())), s2, s3] M Q = ((0 ≤ x ∧ x < xs.length) ∧ sf_wp d (some xs) 165 593 [l0, l1, l2, l3] [.inl (xs.getD x.toNat 0), s2, s3] M Q) := sf_qS_ld rfl
set_option maxRecDepth 100000 in
theorem q165_593 (d : Nat) (l1 l2 l3 : Option sf_V) (s0 s1 s2 : sf_V) (M : sf_M) (sc : Option (List Int)) (Q : Option sf_V → sf_M → Prop) : sf_wp d sc 165 593 [some (.inr (.inr (.inr ()))), l1, l2, l3] [s0, s1, s2] M Q = sf_wp d sc 165 594 [some (.inr (.inr (.inr ()))), l1, l2, l3] [.inr (.inr (.inr ())), s0, s1, s2] M Q := sf_q rfl rfl
set_option maxRecDepth 100000 in
theorem q165_594 (d : Nat) (x : Int) (l0 l1 l2 : Option sf_V) (s0 s1 s2 s3 : sf_V) (M : sf_M) (sc : Option (List Int)) (Q : Option sf_V → sf_M → Prop) : sf_wp d sc 165 594 [l0, l1, l2, some (.inl x)] [s0, s1, s2, s3] M Q = sf_wp d sc 165 595 [l0, l1, l2, some (.inl x)] [.inl x, s0, s1, s2, s3] M Q := sf_q rfl rfl
set_option maxRecDepth 100000 in
theorem q165_595 (d : Nat) (l0 l1 l2 l3 : Option sf_V) (s0 s1 s2 s3 s4 : sf_V) (M : sf_M) (sc : Option (List Int)) (Q : Option sf_V → sf_M → Prop) : sf_wp d sc 165 595 [l0, l1, l2, l3] [s0, s1, s2, s3, s4] M Q = sf_wp d sc 165 596 [l0, l1, l2, l3] [.inl 2, s0, s1, s2, s3, s4] M Q := sf_q rfl rfl
set_option maxRecDepth 100000 in
theorem q165_596 (d : Nat) (z : Int) (x : Int) (l0 l1 l2 l3 : Option sf_V) (s2 s3 s4 s5 : sf_V) (M : sf_M) (sc : Option (List Int)) (Q : Option sf_V → sf_M → Prop) : sf_wp d sc 165 596 [l0, l1, l2, l3] [.inl z, .inl x, s2, s3, s4, s5] M Q = sf_wp d sc 165 597 [l0, l1, l2, l3] [.inl (sf_w (x + z)), s2, s3, s4, s5] M Q := sf_q rfl rfl
set_option maxRecDepth 100000 in
theorem q165_597 (d : Nat) (x : Int) (l0 l1 l2 l3 : Option sf_V) (s2 s3 s4 : sf_V) (M : sf_M) (xs : List Int) (Q : Option sf_V → sf_M → Prop) : sf_wp d (some xs) 165 597 [l0, l1, l2, l3] [.inl x, .inr (.inr (.inr ())), s2, s3, s4] M Q = ((0 ≤ x ∧ x < xs.length) ∧ sf_wp d (some xs) 165 598 [l0, l1, l2, l3] [.inl (xs.getD x.toNat 0), s2, s3, s4] M Q) := sf_qS_ld rfl
set_option maxRecDepth 100000 in
theorem q165_598 (d : Nat) (l1 l2 l3 : Option sf_V) (s0 s1 s2 s3 : sf_V) (M : sf_M) (sc : Option (List Int)) (Q : Option sf_V → sf_M → Prop) : sf_wp d sc 165 598 [some (.inr (.inr (.inr ()))), l1, l2, l3] [s0, s1, s2, s3] M Q = sf_wp d sc 165 599 [some (.inr (.inr (.inr ()))), l1, l2, l3] [.inr (.inr (.inr ())), s0, s1, s2, s3] M Q := sf_q rfl rfl
set_option maxRecDepth 100000 in
theorem q165_599 (d : Nat) (x : Int) (l0 l1 l2 : Option sf_V) (s0 s1 s2 s3 s4 : sf_V) (M : sf_M) (sc : Option (List Int)) (Q : Option sf_V → sf_M → Prop) : sf_wp d sc 165 599 [l0, l1, l2, some (.inl x)] [s0, s1, s2, s3, s4] M Q = sf_wp d sc 165 600 [l0, l1, l2, some (.inl x)] [.inl x, s0, s1, s2, s3, s4] M Q := sf_q rfl rfl
set_option maxRecDepth 100000 in
theorem q165_600 (d : Nat) (l0 l1 l2 l3 : Option sf_V) (s0 s1 s2 s3 s4 s5 : sf_V) (M : sf_M) (sc : Option (List Int)) (Q : Option sf_V → sf_M → Prop) : sf_wp d sc 165 600 [l0, l1, l2, l3] [s0, s1, s2, s3, s4, s5] M Q = sf_wp d sc 165 601 [l0, l1, l2, l3] [.inl 3, s0, s1, s2, s3, s4, s5] M Q := sf_q rfl rfl
set_option maxRecDepth 100000 in
theorem q165_601 (d : Nat) (z : Int) (x : Int) (l0 l1 l2 l3 : Option sf_V) (s2 s3 s4 s5 s6 : sf_V) (M : sf_M) (sc : Option (List Int)) (Q : Option sf_V → sf_M → Prop) : sf_wp d sc 165 601 [l0, l1, l2, l3] [.inl z, .inl x, s2, s3, s4, s5, s6] M Q = sf_wp d sc 165 602 [l0, l1, l2, l3] [.inl (sf_w (x + z)), s2, s3, s4, s5, s6] M Q := sf_q rfl rfl
set_option maxRecDepth 100000 in
theorem q165_602 (d : Nat) (x : Int) (l0 l1 l2 l3 : Option sf_V) (s2 s3 s4 s5 : sf_V) (M : sf_M) (xs : List Int) (Q : Option sf_V → sf_M → Prop) : sf_wp d (some xs) 165 602 [l0, l1, l2, l3] [.inl x, .inr (.inr (.inr ())), s2, s3, s4, s5] M Q = ((0 ≤ x ∧ x < xs.length) ∧ sf_wp d (some xs) 165 603 [l0, l1, l2, l3] [.inl (xs.getD x.toNat 0), s2, s3, s4, s5] M Q) := sf_qS_ld rfl
set_option maxRecDepth 100000 in
theorem q165_603 (d : Nat) (l1 l2 l3 : Option sf_V) (s0 s1 s2 s3 s4 : sf_V) (M : sf_M) (sc : Option (List Int)) (Q : Option sf_V → sf_M → Prop) : sf_wp d sc 165 603 [some (.inr (.inr (.inr ()))), l1, l2, l3] [s0, s1, s2, s3, s4] M Q = sf_wp d sc 165 604 [some (.inr (.inr (.inr ()))), l1, l2, l3] [.inr (.inr (.inr ())), s0, s1, s2, s3, s4] M Q := sf_q rfl rfl
set_option maxRecDepth 100000 in
theorem q165_604 (d : Nat) (x : Int) (l0 l1 l2 : Option sf_V) (s0 s1 s2 s3 s4 s5 : sf_V) (M : sf_M) (sc : Option (List Int)) (Q : Option sf_V → sf_M → Prop) : sf_wp d sc 165 604 [l0, l1, l2, some (.inl x)] [s0, s1, s2, s3, s4, s5] M Q = sf_wp d sc 165 605 [l0, l1, l2, some (.inl x)] [.inl x, s0, s1, s2, s3, s4, s5] M Q := sf_q rfl rfl
set_option maxRecDepth 100000 in
theorem q165_605 (d : Nat) (l0 l1 l2 l3 : Option sf_V) (s0 s1 s2 s3 s4 s5 s6 : sf_V) (M : sf_M) (sc : Option (List Int)) (Q : Option sf_V → sf_M → Prop) : sf_wp d sc 165 605 [l0, l1, l2, l3] [s0, s1, s2, s3, s4, s5, s6] M Q = sf_wp d sc 165 606 [l0, l1, l2, l3] [.inl 4, s0, s1, s2, s3, s4, s5, s6] M Q := sf_q rfl rfl
set_option maxRecDepth 100000 in
theorem q165_606 (d : Nat) (z : Int) (x : Int) (l0 l1 l2 l3 : Option sf_V) (s2 s3 s4 s5 s6 s7 : sf_V) (M : sf_M) (sc : Option (List Int)) (Q : Option sf_V → sf_M → Prop) : sf_wp d sc 165 606 [l0, l1, l2, l3] [.inl z, .inl x, s2, s3, s4, s5, s6, s7] M Q = sf_wp d sc 165 607 [l0, l1, l2, l3] [.inl (sf_w (x + z)), s2, s3, s4, s5, s6, s7] M Q := sf_q rfl rfl
set_option maxRecDepth 100000 in
theorem q165_607 (d : Nat) (x : Int) (l0 l1 l2 l3 : Option sf_V) (s2 s3 s4 s5 s6 : sf_V) (M : sf_M) (xs : List Int) (Q : Option sf_V → sf_M → Prop) : sf_wp d (some xs) 165 607 [l0, l1, l2, l3] [.inl x, .inr (.inr (.inr ())), s2, s3, s4, s5, s6] M Q = ((0 ≤ x ∧ x < xs.length) ∧ sf_wp d (some xs) 165 608 [l0, l1, l2, l3] [.inl (xs.getD x.toNat 0), s2, s3, s4, s5, s6] M Q) := sf_qS_ld rfl
set_option maxRecDepth 100000 in
theorem q165_608 (d : Nat) (a4 : Int) (a3 : Int) (a2 : Int) (a1 : Int) (a0 : Nat) (l0 l1 l2 l3 : Option sf_V) (s5 : sf_V) (V : sf_MV) (sc : Option (List Int)) (Q : Option sf_V → sf_M → Prop) (h : sf_cls a0 = 12) : sf_wp (d + 1) sc 165 608 [l0, l1, l2, l3] [.inl a4, .inl a3, .inl a2, .inl a1, .inr (.inl (some a0)), s5] (sf_E V) Q = sf_wp d none 144 0 [some (.inr (.inl (some a0))), some (.inl a1), some (.inl a2), some (.inl a3), some (.inl a4), none, none, none, none, none] [] (sf_E V) (fun r M1 => sf_wp (d + 1) sc 165 611 [l0, l1, l2, l3] (r.toList ++ [s5]) M1 Q) := sf_qV h rfl (by decide) ⟨⟨Nat.le_of_ble_eq_true rfl, Nat.le_of_ble_eq_true rfl, Nat.le_of_ble_eq_true rfl⟩, rfl⟩ rfl rfl rfl
set_option maxRecDepth 100000 in
theorem q165_611 (d : Nat) (z : Int) (x : Int) (l0 l1 l2 l3 : Option sf_V) (M : sf_M) (sc : Option (List Int)) (Q : Option sf_V → sf_M → Prop) : sf_wp d sc 165 611 [l0, l1, l2, l3] [.inl z, .inl x] M Q = if x = z then sf_wp d sc 165 968 [l0, l1, l2, l3] [] M Q else sf_wp d sc 165 614 [l0, l1, l2, l3] [] M Q := sf_qic_eq rfl
set_option maxRecDepth 100000 in
theorem q165_614 (d : Nat) (l0 l1 l2 l3 : Option sf_V) (M : sf_M) (sc : Option (List Int)) (Q : Option sf_V → sf_M → Prop) : sf_wp d sc 165 614 [l0, l1, l2, l3] [] M Q = sf_wp d sc 165 615 [l0, l1, l2, l3] [.inl 0] M Q := sf_q rfl rfl
set_option maxRecDepth 100000 in
theorem q165_615 (d : Nat) (x : Int) (l0 l1 l2 l3 : Option sf_V) (M : sf_M) (sc : Option (List Int)) (Q : Option sf_V → sf_M → Prop) : sf_wp d sc 165 615 [l0, l1, l2, l3] [.inl x] M Q = ((x = 0 ∨ x = 1) ∧ Q (some (.inl x)) M) := sf_qRz rfl
set_option maxRecDepth 100000 in
theorem q165_616 (d : Nat) (x : Nat) (l0 l2 l3 : Option sf_V) (M : sf_M) (sc : Option (List Int)) (Q : Option sf_V → sf_M → Prop) : sf_wp d sc 165 616 [l0, some (.inr (.inl (some x))), l2, l3] [] M Q = sf_wp d sc 165 617 [l0, some (.inr (.inl (some x))), l2, l3] [.inr (.inl (some x))] M Q := sf_q rfl rfl
set_option maxRecDepth 100000 in
theorem q165_617 (d : Nat) (l1 l2 l3 : Option sf_V) (s0 : sf_V) (M : sf_M) (sc : Option (List Int)) (Q : Option sf_V → sf_M → Prop) : sf_wp d sc 165 617 [some (.inr (.inr (.inr ()))), l1, l2, l3] [s0] M Q = sf_wp d sc 165 618 [some (.inr (.inr (.inr ()))), l1, l2, l3] [.inr (.inr (.inr ())), s0] M Q := sf_q rfl rfl
set_option maxRecDepth 100000 in
theorem q165_618 (d : Nat) (x : Int) (l0 l1 l2 : Option sf_V) (s0 s1 : sf_V) (M : sf_M) (sc : Option (List Int)) (Q : Option sf_V → sf_M → Prop) : sf_wp d sc 165 618 [l0, l1, l2, some (.inl x)] [s0, s1] M Q = sf_wp d sc 165 619 [l0, l1, l2, some (.inl x)] [.inl x, s0, s1] M Q := sf_q rfl rfl
set_option maxRecDepth 100000 in
theorem q165_619 (d : Nat) (l0 l1 l2 l3 : Option sf_V) (s0 s1 s2 : sf_V) (M : sf_M) (sc : Option (List Int)) (Q : Option sf_V → sf_M → Prop) : sf_wp d sc 165 619 [l0, l1, l2, l3] [s0, s1, s2] M Q = sf_wp d sc 165 620 [l0, l1, l2, l3] [.inl 1, s0, s1, s2] M Q := sf_q rfl rfl
set_option maxRecDepth 100000 in
theorem q165_620 (d : Nat) (z : Int) (x : Int) (l0 l1 l2 l3 : Option sf_V) (s2 s3 : sf_V) (M : sf_M) (sc : Option (List Int)) (Q : Option sf_V → sf_M → Prop) : sf_wp d sc 165 620 [l0, l1, l2, l3] [.inl z, .inl x, s2, s3] M Q = sf_wp d sc 165 621 [l0, l1, l2, l3] [.inl (sf_w (x + z)), s2, s3] M Q := sf_q rfl rfl
set_option maxRecDepth 100000 in
theorem q165_621 (d : Nat) (x : Int) (l0 l1 l2 l3 : Option sf_V) (s2 : sf_V) (M : sf_M) (xs : List Int) (Q : Option sf_V → sf_M → Prop) : sf_wp d (some xs) 165 621 [l0, l1, l2, l3] [.inl x, .inr (.inr (.inr ())), s2] M Q = ((0 ≤ x ∧ x < xs.length) ∧ sf_wp d (some xs) 165 622 [l0, l1, l2, l3] [.inl (xs.getD x.toNat 0), s2] M Q) := sf_qS_ld rfl
set_option maxRecDepth 100000 in
theorem q165_622 (d : Nat) (a1 : Int) (a0 : Nat) (l0 l1 l2 l3 : Option sf_V) (V : sf_MV) (sc : Option (List Int)) (Q : Option sf_V → sf_M → Prop) (h : sf_cls a0 = 11) : sf_wp (d + 1) sc 165 622 [l0, l1, l2, l3] [.inl a1, .inr (.inl (some a0))] (sf_E V) Q = sf_wp d none 76 0 [some (.inr (.inl (some a0))), some (.inl a1)] [] (sf_E V) (fun r M1 => sf_wp (d + 1) sc 165 625 [l0, l1, l2, l3] (r.toList ++ []) M1 Q) := sf_qV h rfl (by decide) ⟨⟨Nat.le_of_ble_eq_true rfl, Nat.le_of_ble_eq_true rfl, Nat.le_of_ble_eq_true rfl⟩, rfl⟩ rfl rfl rfl
set_option maxRecDepth 100000 in
theorem q165_625 (d : Nat) (x : Nat) (l0 l1 l3 : Option sf_V) (s0 : sf_V) (M : sf_M) (sc : Option (List Int)) (Q : Option sf_V → sf_M → Prop) : sf_wp d sc 165 625 [l0, l1, some (.inr (.inl (some x))), l3] [s0] M Q = sf_wp d sc 165 626 [l0, l1, some (.inr (.inl (some x))), l3] [.inr (.inl (some x)), s0] M Q := sf_q rfl rfl
set_option maxRecDepth 100000 in
theorem q165_626 (d : Nat) (l1 l2 l3 : Option sf_V) (s0 s1 : sf_V) (M : sf_M) (sc : Option (List Int)) (Q : Option sf_V → sf_M → Prop) : sf_wp d sc 165 626 [some (.inr (.inr (.inr ()))), l1, l2, l3] [s0, s1] M Q = sf_wp d sc 165 627 [some (.inr (.inr (.inr ()))), l1, l2, l3] [.inr (.inr (.inr ())), s0, s1] M Q := sf_q rfl rfl
set_option maxRecDepth 100000 in
theorem q165_627 (d : Nat) (x : Int) (l0 l1 l2 : Option sf_V) (s0 s1 s2 : sf_V) (M : sf_M) (sc : Option (List Int)) (Q : Option sf_V → sf_M → Prop) : sf_wp d sc 165 627 [l0, l1, l2, some (.inl x)] [s0, s1, s2] M Q = sf_wp d sc 165 628 [l0, l1, l2, some (.inl x)] [.inl x, s0, s1, s2] M Q := sf_q rfl rfl
set_option maxRecDepth 100000 in
theorem q165_628 (d : Nat) (l0 l1 l2 l3 : Option sf_V) (s0 s1 s2 s3 : sf_V) (M : sf_M) (sc : Option (List Int)) (Q : Option sf_V → sf_M → Prop) : sf_wp d sc 165 628 [l0, l1, l2, l3] [s0, s1, s2, s3] M Q = sf_wp d sc 165 629 [l0, l1, l2, l3] [.inl 1, s0, s1, s2, s3] M Q := sf_q rfl rfl
set_option maxRecDepth 100000 in
theorem q165_629 (d : Nat) (z : Int) (x : Int) (l0 l1 l2 l3 : Option sf_V) (s2 s3 s4 : sf_V) (M : sf_M) (sc : Option (List Int)) (Q : Option sf_V → sf_M → Prop) : sf_wp d sc 165 629 [l0, l1, l2, l3] [.inl z, .inl x, s2, s3, s4] M Q = sf_wp d sc 165 630 [l0, l1, l2, l3] [.inl (sf_w (x + z)), s2, s3, s4] M Q := sf_q rfl rfl
set_option maxRecDepth 100000 in
theorem q165_630 (d : Nat) (x : Int) (l0 l1 l2 l3 : Option sf_V) (s2 s3 : sf_V) (M : sf_M) (xs : List Int) (Q : Option sf_V → sf_M → Prop) : sf_wp d (some xs) 165 630 [l0, l1, l2, l3] [.inl x, .inr (.inr (.inr ())), s2, s3] M Q = ((0 ≤ x ∧ x < xs.length) ∧ sf_wp d (some xs) 165 631 [l0, l1, l2, l3] [.inl (xs.getD x.toNat 0), s2, s3] M Q) := sf_qS_ld rfl
set_option maxRecDepth 100000 in
theorem q165_631 (d : Nat) (a1 : Int) (a0 : Nat) (l0 l1 l2 l3 : Option sf_V) (s2 : sf_V) (V : sf_MV) (sc : Option (List Int)) (Q : Option sf_V → sf_M → Prop) (h : sf_cls a0 = 12) : sf_wp (d + 1) sc 165 631 [l0, l1, l2, l3] [.inl a1, .inr (.inl (some a0)), s2] (sf_E V) Q = sf_wp d none 149 0 [some (.inr (.inl (some a0))), some (.inl a1)] [] (sf_E V) (fun r M1 => sf_wp (d + 1) sc 165 634 [l0, l1, l2, l3] (r.toList ++ [s2]) M1 Q) := sf_qV h rfl (by decide) ⟨⟨Nat.le_of_ble_eq_true rfl, Nat.le_of_ble_eq_true rfl, Nat.le_of_ble_eq_true rfl⟩, rfl⟩ rfl rfl rfl
set_option maxRecDepth 100000 in
theorem q165_634 (d : Nat) (z : Int) (x : Int) (l0 l1 l2 l3 : Option sf_V) (M : sf_M) (sc : Option (List Int)) (Q : Option sf_V → sf_M → Prop) : sf_wp d sc 165 634 [l0, l1, l2, l3] [.inl z, .inl x] M Q = if x = z then sf_wp d sc 165 968 [l0, l1, l2, l3] [] M Q else sf_wp d sc 165 637 [l0, l1, l2, l3] [] M Q := sf_qic_eq rfl
set_option maxRecDepth 100000 in
theorem q165_637 (d : Nat) (l0 l1 l2 l3 : Option sf_V) (M : sf_M) (sc : Option (List Int)) (Q : Option sf_V → sf_M → Prop) : sf_wp d sc 165 637 [l0, l1, l2, l3] [] M Q = sf_wp d sc 165 638 [l0, l1, l2, l3] [.inl 0] M Q := sf_q rfl rfl
set_option maxRecDepth 100000 in
theorem q165_638 (d : Nat) (x : Int) (l0 l1 l2 l3 : Option sf_V) (M : sf_M) (sc : Option (List Int)) (Q : Option sf_V → sf_M → Prop) : sf_wp d sc 165 638 [l0, l1, l2, l3] [.inl x] M Q = ((x = 0 ∨ x = 1) ∧ Q (some (.inl x)) M) := sf_qRz rfl
set_option maxRecDepth 100000 in
theorem q165_639 (d : Nat) (x : Nat) (l0 l2 l3 : Option sf_V) (M : sf_M) (sc : Option (List Int)) (Q : Option sf_V → sf_M → Prop) : sf_wp d sc 165 639 [l0, some (.inr (.inl (some x))), l2, l3] [] M Q = sf_wp d sc 165 640 [l0, some (.inr (.inl (some x))), l2, l3] [.inr (.inl (some x))] M Q := sf_q rfl rfl
set_option maxRecDepth 100000 in
theorem q165_640 (d : Nat) (a0 : Nat) (l0 l1 l2 l3 : Option sf_V) (V : sf_MV) (sc : Option (List Int)) (Q : Option sf_V → sf_M → Prop) (h : sf_cls a0 = 11) : sf_wp (d + 1) sc 165 640 [l0, l1, l2, l3] [.inr (.inl (some a0))] (sf_E V) Q = sf_wp d none 77 0 [some (.inr (.inl (some a0)))] [] (sf_E V) (fun r M1 => sf_wp (d + 1) sc 165 643 [l0, l1, l2, l3] (r.toList ++ []) M1 Q) := sf_qV h rfl (by decide) ⟨⟨Nat.le_of_ble_eq_true rfl, Nat.le_of_ble_eq_true rfl, Nat.le_of_ble_eq_true rfl⟩, rfl⟩ rfl rfl rfl
set_option maxRecDepth 100000 in
theorem q165_643 (d : Nat) (x : Nat) (l0 l1 l3 : Option sf_V) (s0 : sf_V) (M : sf_M) (sc : Option (List Int)) (Q : Option sf_V → sf_M → Prop) : sf_wp d sc 165 643 [l0, l1, some (.inr (.inl (some x))), l3] [s0] M Q = sf_wp d sc 165 644 [l0, l1, some (.inr (.inl (some x))), l3] [.inr (.inl (some x)), s0] M Q := sf_q rfl rfl
set_option maxRecDepth 100000 in
theorem q165_644 (d : Nat) (a0 : Nat) (l0 l1 l2 l3 : Option sf_V) (s1 : sf_V) (V : sf_MV) (sc : Option (List Int)) (Q : Option sf_V → sf_M → Prop) (h : sf_cls a0 = 12) : sf_wp (d + 1) sc 165 644 [l0, l1, l2, l3] [.inr (.inl (some a0)), s1] (sf_E V) Q = sf_wp d none 150 0 [some (.inr (.inl (some a0))), none, none, none] [] (sf_E V) (fun r M1 => sf_wp (d + 1) sc 165 647 [l0, l1, l2, l3] (r.toList ++ [s1]) M1 Q) := sf_qV h rfl (by decide) ⟨⟨Nat.le_of_ble_eq_true rfl, Nat.le_of_ble_eq_true rfl, Nat.le_of_ble_eq_true rfl⟩, rfl⟩ rfl rfl rfl
set_option maxRecDepth 100000 in
theorem q165_647 (d : Nat) (z : Int) (x : Int) (l0 l1 l2 l3 : Option sf_V) (M : sf_M) (sc : Option (List Int)) (Q : Option sf_V → sf_M → Prop) : sf_wp d sc 165 647 [l0, l1, l2, l3] [.inl z, .inl x] M Q = if x = z then sf_wp d sc 165 968 [l0, l1, l2, l3] [] M Q else sf_wp d sc 165 650 [l0, l1, l2, l3] [] M Q := sf_qic_eq rfl
set_option maxRecDepth 100000 in
theorem q165_650 (d : Nat) (l0 l1 l2 l3 : Option sf_V) (M : sf_M) (sc : Option (List Int)) (Q : Option sf_V → sf_M → Prop) : sf_wp d sc 165 650 [l0, l1, l2, l3] [] M Q = sf_wp d sc 165 651 [l0, l1, l2, l3] [.inl 0] M Q := sf_q rfl rfl
set_option maxRecDepth 100000 in
theorem q165_651 (d : Nat) (x : Int) (l0 l1 l2 l3 : Option sf_V) (M : sf_M) (sc : Option (List Int)) (Q : Option sf_V → sf_M → Prop) : sf_wp d sc 165 651 [l0, l1, l2, l3] [.inl x] M Q = ((x = 0 ∨ x = 1) ∧ Q (some (.inl x)) M) := sf_qRz rfl
set_option maxRecDepth 100000 in
theorem q165_652 (d : Nat) (x : Nat) (l0 l2 l3 : Option sf_V) (M : sf_M) (sc : Option (List Int)) (Q : Option sf_V → sf_M → Prop) : sf_wp d sc 165 652 [l0, some (.inr (.inl (some x))), l2, l3] [] M Q = sf_wp d sc 165 653 [l0, some (.inr (.inl (some x))), l2, l3] [.inr (.inl (some x))] M Q := sf_q rfl rfl
set_option maxRecDepth 100000 in
theorem q165_653 (d : Nat) (l1 l2 l3 : Option sf_V) (s0 : sf_V) (M : sf_M) (sc : Option (List Int)) (Q : Option sf_V → sf_M → Prop) : sf_wp d sc 165 653 [some (.inr (.inr (.inr ()))), l1, l2, l3] [s0] M Q = sf_wp d sc 165 654 [some (.inr (.inr (.inr ()))), l1, l2, l3] [.inr (.inr (.inr ())), s0] M Q := sf_q rfl rfl
set_option maxRecDepth 100000 in
theorem q165_654 (d : Nat) (x : Int) (l0 l1 l2 : Option sf_V) (s0 s1 : sf_V) (M : sf_M) (sc : Option (List Int)) (Q : Option sf_V → sf_M → Prop) : sf_wp d sc 165 654 [l0, l1, l2, some (.inl x)] [s0, s1] M Q = sf_wp d sc 165 655 [l0, l1, l2, some (.inl x)] [.inl x, s0, s1] M Q := sf_q rfl rfl
set_option maxRecDepth 100000 in
theorem q165_655 (d : Nat) (l0 l1 l2 l3 : Option sf_V) (s0 s1 s2 : sf_V) (M : sf_M) (sc : Option (List Int)) (Q : Option sf_V → sf_M → Prop) : sf_wp d sc 165 655 [l0, l1, l2, l3] [s0, s1, s2] M Q = sf_wp d sc 165 656 [l0, l1, l2, l3] [.inl 1, s0, s1, s2] M Q := sf_q rfl rfl
set_option maxRecDepth 100000 in
theorem q165_656 (d : Nat) (z : Int) (x : Int) (l0 l1 l2 l3 : Option sf_V) (s2 s3 : sf_V) (M : sf_M) (sc : Option (List Int)) (Q : Option sf_V → sf_M → Prop) : sf_wp d sc 165 656 [l0, l1, l2, l3] [.inl z, .inl x, s2, s3] M Q = sf_wp d sc 165 657 [l0, l1, l2, l3] [.inl (sf_w (x + z)), s2, s3] M Q := sf_q rfl rfl
set_option maxRecDepth 100000 in
theorem q165_657 (d : Nat) (x : Int) (l0 l1 l2 l3 : Option sf_V) (s2 : sf_V) (M : sf_M) (xs : List Int) (Q : Option sf_V → sf_M → Prop) : sf_wp d (some xs) 165 657 [l0, l1, l2, l3] [.inl x, .inr (.inr (.inr ())), s2] M Q = ((0 ≤ x ∧ x < xs.length) ∧ sf_wp d (some xs) 165 658 [l0, l1, l2, l3] [.inl (xs.getD x.toNat 0), s2] M Q) := sf_qS_ld rfl
set_option maxRecDepth 100000 in
theorem q165_658 (d : Nat) (l1 l2 l3 : Option sf_V) (s0 s1 : sf_V) (M : sf_M) (sc : Option (List Int)) (Q : Option sf_V → sf_M → Prop) : sf_wp d sc 165 658 [some (.inr (.inr (.inr ()))), l1, l2, l3] [s0, s1] M Q = sf_wp d sc 165 659 [some (.inr (.inr (.inr ()))), l1, l2, l3] [.inr (.inr (.inr ())), s0, s1] M Q := sf_q rfl rfl
set_option maxRecDepth 100000 in
theorem q165_659 (d : Nat) (x : Int) (l0 l1 l2 : Option sf_V) (s0 s1 s2 : sf_V) (M : sf_M) (sc : Option (List Int)) (Q : Option sf_V → sf_M → Prop) : sf_wp d sc 165 659 [l0, l1, l2, some (.inl x)] [s0, s1, s2] M Q = sf_wp d sc 165 660 [l0, l1, l2, some (.inl x)] [.inl x, s0, s1, s2] M Q := sf_q rfl rfl
set_option maxRecDepth 100000 in
theorem q165_660 (d : Nat) (l0 l1 l2 l3 : Option sf_V) (s0 s1 s2 s3 : sf_V) (M : sf_M) (sc : Option (List Int)) (Q : Option sf_V → sf_M → Prop) : sf_wp d sc 165 660 [l0, l1, l2, l3] [s0, s1, s2, s3] M Q = sf_wp d sc 165 661 [l0, l1, l2, l3] [.inl 2, s0, s1, s2, s3] M Q := sf_q rfl rfl
set_option maxRecDepth 100000 in
theorem q165_661 (d : Nat) (z : Int) (x : Int) (l0 l1 l2 l3 : Option sf_V) (s2 s3 s4 : sf_V) (M : sf_M) (sc : Option (List Int)) (Q : Option sf_V → sf_M → Prop) : sf_wp d sc 165 661 [l0, l1, l2, l3] [.inl z, .inl x, s2, s3, s4] M Q = sf_wp d sc 165 662 [l0, l1, l2, l3] [.inl (sf_w (x + z)), s2, s3, s4] M Q := sf_q rfl rfl
set_option maxRecDepth 100000 in
theorem q165_662 (d : Nat) (x : Int) (l0 l1 l2 l3 : Option sf_V) (s2 s3 : sf_V) (M : sf_M) (xs : List Int) (Q : Option sf_V → sf_M → Prop) : sf_wp d (some xs) 165 662 [l0, l1, l2, l3] [.inl x, .inr (.inr (.inr ())), s2, s3] M Q = ((0 ≤ x ∧ x < xs.length) ∧ sf_wp d (some xs) 165 663 [l0, l1, l2, l3] [.inl (xs.getD x.toNat 0), s2, s3] M Q) := sf_qS_ld rfl
set_option maxRecDepth 100000 in
theorem q165_663 (d : Nat) (a2 : Int) (a1 : Int) (a0 : Nat) (l0 l1 l2 l3 : Option sf_V) (V : sf_MV) (sc : Option (List Int)) (Q : Option sf_V → sf_M → Prop) (h : sf_cls a0 = 11) : sf_wp (d + 1) sc 165 663 [l0, l1, l2, l3] [.inl a2, .inl a1, .inr (.inl (some a0))] (sf_E V) Q = sf_wp d none 78 0 [some (.inr (.inl (some a0))), some (.inl a1), some (.inl a2), none, none, none] [] (sf_E V) (fun r M1 => sf_wp (d + 1) sc 165 666 [l0, l1, l2, l3] (r.toList ++ []) M1 Q) := sf_qV h rfl (by decide) ⟨⟨Nat.le_of_ble_eq_true rfl, Nat.le_of_ble_eq_true rfl, Nat.le_of_ble_eq_true rfl⟩, rfl⟩ rfl rfl rfl
set_option maxRecDepth 100000 in
theorem q165_666 (d : Nat) (x : Nat) (l0 l1 l3 : Option sf_V) (s0 : sf_V) (M : sf_M) (sc : Option (List Int)) (Q : Option sf_V → sf_M → Prop) : sf_wp d sc 165 666 [l0, l1, some (.inr (.inl (some x))), l3] [s0] M Q = sf_wp d sc 165 667 [l0, l1, some (.inr (.inl (some x))), l3] [.inr (.inl (some x)), s0] M Q := sf_q rfl rfl
set_option maxRecDepth 100000 in
theorem q165_667 (d : Nat) (l1 l2 l3 : Option sf_V) (s0 s1 : sf_V) (M : sf_M) (sc : Option (List Int)) (Q : Option sf_V → sf_M → Prop) : sf_wp d sc 165 667 [some (.inr (.inr (.inr ()))), l1, l2, l3] [s0, s1] M Q = sf_wp d sc 165 668 [some (.inr (.inr (.inr ()))), l1, l2, l3] [.inr (.inr (.inr ())), s0, s1] M Q := sf_q rfl rfl
set_option maxRecDepth 100000 in
theorem q165_668 (d : Nat) (x : Int) (l0 l1 l2 : Option sf_V) (s0 s1 s2 : sf_V) (M : sf_M) (sc : Option (List Int)) (Q : Option sf_V → sf_M → Prop) : sf_wp d sc 165 668 [l0, l1, l2, some (.inl x)] [s0, s1, s2] M Q = sf_wp d sc 165 669 [l0, l1, l2, some (.inl x)] [.inl x, s0, s1, s2] M Q := sf_q rfl rfl
set_option maxRecDepth 100000 in
theorem q165_669 (d : Nat) (l0 l1 l2 l3 : Option sf_V) (s0 s1 s2 s3 : sf_V) (M : sf_M) (sc : Option (List Int)) (Q : Option sf_V → sf_M → Prop) : sf_wp d sc 165 669 [l0, l1, l2, l3] [s0, s1, s2, s3] M Q = sf_wp d sc 165 670 [l0, l1, l2, l3] [.inl 1, s0, s1, s2, s3] M Q := sf_q rfl rfl
set_option maxRecDepth 100000 in
theorem q165_670 (d : Nat) (z : Int) (x : Int) (l0 l1 l2 l3 : Option sf_V) (s2 s3 s4 : sf_V) (M : sf_M) (sc : Option (List Int)) (Q : Option sf_V → sf_M → Prop) : sf_wp d sc 165 670 [l0, l1, l2, l3] [.inl z, .inl x, s2, s3, s4] M Q = sf_wp d sc 165 671 [l0, l1, l2, l3] [.inl (sf_w (x + z)), s2, s3, s4] M Q := sf_q rfl rfl
set_option maxRecDepth 100000 in
theorem q165_671 (d : Nat) (x : Int) (l0 l1 l2 l3 : Option sf_V) (s2 s3 : sf_V) (M : sf_M) (xs : List Int) (Q : Option sf_V → sf_M → Prop) : sf_wp d (some xs) 165 671 [l0, l1, l2, l3] [.inl x, .inr (.inr (.inr ())), s2, s3] M Q = ((0 ≤ x ∧ x < xs.length) ∧ sf_wp d (some xs) 165 672 [l0, l1, l2, l3] [.inl (xs.getD x.toNat 0), s2, s3] M Q) := sf_qS_ld rfl
set_option maxRecDepth 100000 in
theorem q165_672 (d : Nat) (l1 l2 l3 : Option sf_V) (s0 s1 s2 : sf_V) (M : sf_M) (sc : Option (List Int)) (Q : Option sf_V → sf_M → Prop) : sf_wp d sc 165 672 [some (.inr (.inr (.inr ()))), l1, l2, l3] [s0, s1, s2] M Q = sf_wp d sc 165 673 [some (.inr (.inr (.inr ()))), l1, l2, l3] [.inr (.inr (.inr ())), s0, s1, s2] M Q := sf_q rfl rfl
set_option maxRecDepth 100000 in
theorem q165_673 (d : Nat) (x : Int) (l0 l1 l2 : Option sf_V) (s0 s1 s2 s3 : sf_V) (M : sf_M) (sc : Option (List Int)) (Q : Option sf_V → sf_M → Prop) : sf_wp d sc 165 673 [l0, l1, l2, some (.inl x)] [s0, s1, s2, s3] M Q = sf_wp d sc 165 674 [l0, l1, l2, some (.inl x)] [.inl x, s0, s1, s2, s3] M Q := sf_q rfl rfl
set_option maxRecDepth 100000 in
theorem q165_674 (d : Nat) (l0 l1 l2 l3 : Option sf_V) (s0 s1 s2 s3 s4 : sf_V) (M : sf_M) (sc : Option (List Int)) (Q : Option sf_V → sf_M → Prop) : sf_wp d sc 165 674 [l0, l1, l2, l3] [s0, s1, s2, s3, s4] M Q = sf_wp d sc 165 675 [l0, l1, l2, l3] [.inl 2, s0, s1, s2, s3, s4] M Q := sf_q rfl rfl
set_option maxRecDepth 100000 in
theorem q165_675 (d : Nat) (z : Int) (x : Int) (l0 l1 l2 l3 : Option sf_V) (s2 s3 s4 s5 : sf_V) (M : sf_M) (sc : Option (List Int)) (Q : Option sf_V → sf_M → Prop) : sf_wp d sc 165 675 [l0, l1, l2, l3] [.inl z, .inl x, s2, s3, s4, s5] M Q = sf_wp d sc 165 676 [l0, l1, l2, l3] [.inl (sf_w (x + z)), s2, s3, s4, s5] M Q := sf_q rfl rfl
set_option maxRecDepth 100000 in
theorem q165_676 (d : Nat) (x : Int) (l0 l1 l2 l3 : Option sf_V) (s2 s3 s4 : sf_V) (M : sf_M) (xs : List Int) (Q : Option sf_V → sf_M → Prop) : sf_wp d (some xs) 165 676 [l0, l1, l2, l3] [.inl x, .inr (.inr (.inr ())), s2, s3, s4] M Q = ((0 ≤ x ∧ x < xs.length) ∧ sf_wp d (some xs) 165 677 [l0, l1, l2, l3] [.inl (xs.getD x.toNat 0), s2, s3, s4] M Q) := sf_qS_ld rfl
set_option maxRecDepth 100000 in
theorem q165_677 (d : Nat) (a2 : Int) (a1 : Int) (a0 : Nat) (l0 l1 l2 l3 : Option sf_V) (s3 : sf_V) (V : sf_MV) (sc : Option (List Int)) (Q : Option sf_V → sf_M → Prop) (h : sf_cls a0 = 12) : sf_wp (d + 1) sc 165 677 [l0, l1, l2, l3] [.inl a2, .inl a1, .inr (.inl (some a0)), s3] (sf_E V) Q = sf_wp d none 151 0 [some (.inr (.inl (some a0))), some (.inl a1), some (.inl a2), none, none, none, none] [] (sf_E V) (fun r M1 => sf_wp (d + 1) sc 165 680 [l0, l1, l2, l3] (r.toList ++ [s3]) M1 Q) := sf_qV h rfl (by decide) ⟨⟨Nat.le_of_ble_eq_true rfl, Nat.le_of_ble_eq_true rfl, Nat.le_of_ble_eq_true rfl⟩, rfl⟩ rfl rfl rfl
set_option maxRecDepth 100000 in
theorem q165_680 (d : Nat) (z : Int) (x : Int) (l0 l1 l2 l3 : Option sf_V) (M : sf_M) (sc : Option (List Int)) (Q : Option sf_V → sf_M → Prop) : sf_wp d sc 165 680 [l0, l1, l2, l3] [.inl z, .inl x] M Q = if x = z then sf_wp d sc 165 968 [l0, l1, l2, l3] [] M Q else sf_wp d sc 165 683 [l0, l1, l2, l3] [] M Q := sf_qic_eq rfl
set_option maxRecDepth 100000 in
theorem q165_683 (d : Nat) (l0 l1 l2 l3 : Option sf_V) (M : sf_M) (sc : Option (List Int)) (Q : Option sf_V → sf_M → Prop) : sf_wp d sc 165 683 [l0, l1, l2, l3] [] M Q = sf_wp d sc 165 684 [l0, l1, l2, l3] [.inl 0] M Q := sf_q rfl rfl
set_option maxRecDepth 100000 in
theorem q165_684 (d : Nat) (x : Int) (l0 l1 l2 l3 : Option sf_V) (M : sf_M) (sc : Option (List Int)) (Q : Option sf_V → sf_M → Prop) : sf_wp d sc 165 684 [l0, l1, l2, l3] [.inl x] M Q = ((x = 0 ∨ x = 1) ∧ Q (some (.inl x)) M) := sf_qRz rfl
set_option maxRecDepth 100000 in
theorem q165_685 (d : Nat) (x : Nat) (l0 l2 l3 : Option sf_V) (M : sf_M) (sc : Option (List Int)) (Q : Option sf_V → sf_M → Prop) : sf_wp d sc 165 685 [l0, some (.inr (.inl (some x))), l2, l3] [] M Q = sf_wp d sc 165 686 [l0, some (.inr (.inl (some x))), l2, l3] [.inr (.inl (some x))] M Q := sf_q rfl rfl
set_option maxRecDepth 100000 in
theorem q165_686 (d : Nat) (l1 l2 l3 : Option sf_V) (s0 : sf_V) (M : sf_M) (sc : Option (List Int)) (Q : Option sf_V → sf_M → Prop) : sf_wp d sc 165 686 [some (.inr (.inr (.inr ()))), l1, l2, l3] [s0] M Q = sf_wp d sc 165 687 [some (.inr (.inr (.inr ()))), l1, l2, l3] [.inr (.inr (.inr ())), s0] M Q := sf_q rfl rfl
set_option maxRecDepth 100000 in
theorem q165_687 (d : Nat) (x : Int) (l0 l1 l2 : Option sf_V) (s0 s1 : sf_V) (M : sf_M) (sc : Option (List Int)) (Q : Option sf_V → sf_M → Prop) : sf_wp d sc 165 687 [l0, l1, l2, some (.inl x)] [s0, s1] M Q = sf_wp d sc 165 688 [l0, l1, l2, some (.inl x)] [.inl x, s0, s1] M Q := sf_q rfl rfl
set_option maxRecDepth 100000 in
theorem q165_688 (d : Nat) (l0 l1 l2 l3 : Option sf_V) (s0 s1 s2 : sf_V) (M : sf_M) (sc : Option (List Int)) (Q : Option sf_V → sf_M → Prop) : sf_wp d sc 165 688 [l0, l1, l2, l3] [s0, s1, s2] M Q = sf_wp d sc 165 689 [l0, l1, l2, l3] [.inl 1, s0, s1, s2] M Q := sf_q rfl rfl
set_option maxRecDepth 100000 in
theorem q165_689 (d : Nat) (z : Int) (x : Int) (l0 l1 l2 l3 : Option sf_V) (s2 s3 : sf_V) (M : sf_M) (sc : Option (List Int)) (Q : Option sf_V → sf_M → Prop) : sf_wp d sc 165 689 [l0, l1, l2, l3] [.inl z, .inl x, s2, s3] M Q = sf_wp d sc 165 690 [l0, l1, l2, l3] [.inl (sf_w (x + z)), s2, s3] M Q := sf_q rfl rfl
set_option maxRecDepth 100000 in
theorem q165_690 (d : Nat) (x : Int) (l0 l1 l2 l3 : Option sf_V) (s2 : sf_V) (M : sf_M) (xs : List Int) (Q : Option sf_V → sf_M → Prop) : sf_wp d (some xs) 165 690 [l0, l1, l2, l3] [.inl x, .inr (.inr (.inr ())), s2] M Q = ((0 ≤ x ∧ x < xs.length) ∧ sf_wp d (some xs) 165 691 [l0, l1, l2, l3] [.inl (xs.getD x.toNat 0), s2] M Q) := sf_qS_ld rfl
set_option maxRecDepth 100000 in
theorem q165_691 (d : Nat) (a1 : Int) (a0 : Nat) (l0 l1 l2 l3 : Option sf_V) (V : sf_MV) (sc : Option (List Int)) (Q : Option sf_V → sf_M → Prop) (h : sf_cls a0 = 11) : sf_wp (d + 1) sc 165 691 [l0, l1, l2, l3] [.inl a1, .inr (.inl (some a0))] (sf_E V) Q = sf_wp d none 79 0 [some (.inr (.inl (some a0))), some (.inl a1), none, none, none] [] (sf_E V) (fun r M1 => sf_wp (d + 1) sc 165 694 [l0, l1, l2, l3] (r.toList ++ []) M1 Q) := sf_qV h rfl (by decide) ⟨⟨Nat.le_of_ble_eq_true rfl, Nat.le_of_ble_eq_true rfl, Nat.le_of_ble_eq_true rfl⟩, rfl⟩ rfl rfl rfl
set_option maxRecDepth 100000 in
theorem q165_694 (d : Nat) (x : Nat) (l0 l1 l3 : Option sf_V) (s0 : sf_V) (M : sf_M) (sc : Option (List Int)) (Q : Option sf_V → sf_M → Prop) : sf_wp d sc 165 694 [l0, l1, some (.inr (.inl (some x))), l3] [s0] M Q = sf_wp d sc 165 695 [l0, l1, some (.inr (.inl (some x))), l3] [.inr (.inl (some x)), s0] M Q := sf_q rfl rfl
set_option maxRecDepth 100000 in
theorem q165_695 (d : Nat) (l1 l2 l3 : Option sf_V) (s0 s1 : sf_V) (M : sf_M) (sc : Option (List Int)) (Q : Option sf_V → sf_M → Prop) : sf_wp d sc 165 695 [some (.inr (.inr (.inr ()))), l1, l2, l3] [s0, s1] M Q = sf_wp d sc 165 696 [some (.inr (.inr (.inr ()))), l1, l2, l3] [.inr (.inr (.inr ())), s0, s1] M Q := sf_q rfl rfl
set_option maxRecDepth 100000 in
theorem q165_696 (d : Nat) (x : Int) (l0 l1 l2 : Option sf_V) (s0 s1 s2 : sf_V) (M : sf_M) (sc : Option (List Int)) (Q : Option sf_V → sf_M → Prop) : sf_wp d sc 165 696 [l0, l1, l2, some (.inl x)] [s0, s1, s2] M Q = sf_wp d sc 165 697 [l0, l1, l2, some (.inl x)] [.inl x, s0, s1, s2] M Q := sf_q rfl rfl
set_option maxRecDepth 100000 in
theorem q165_697 (d : Nat) (l0 l1 l2 l3 : Option sf_V) (s0 s1 s2 s3 : sf_V) (M : sf_M) (sc : Option (List Int)) (Q : Option sf_V → sf_M → Prop) : sf_wp d sc 165 697 [l0, l1, l2, l3] [s0, s1, s2, s3] M Q = sf_wp d sc 165 698 [l0, l1, l2, l3] [.inl 1, s0, s1, s2, s3] M Q := sf_q rfl rfl
set_option maxRecDepth 100000 in
theorem q165_698 (d : Nat) (z : Int) (x : Int) (l0 l1 l2 l3 : Option sf_V) (s2 s3 s4 : sf_V) (M : sf_M) (sc : Option (List Int)) (Q : Option sf_V → sf_M → Prop) : sf_wp d sc 165 698 [l0, l1, l2, l3] [.inl z, .inl x, s2, s3, s4] M Q = sf_wp d sc 165 699 [l0, l1, l2, l3] [.inl (sf_w (x + z)), s2, s3, s4] M Q := sf_q rfl rfl
set_option maxRecDepth 100000 in
theorem q165_699 (d : Nat) (x : Int) (l0 l1 l2 l3 : Option sf_V) (s2 s3 : sf_V) (M : sf_M) (xs : List Int) (Q : Option sf_V → sf_M → Prop) : sf_wp d (some xs) 165 699 [l0, l1, l2, l3] [.inl x, .inr (.inr (.inr ())), s2, s3] M Q = ((0 ≤ x ∧ x < xs.length) ∧ sf_wp d (some xs) 165 700 [l0, l1, l2, l3] [.inl (xs.getD x.toNat 0), s2, s3] M Q) := sf_qS_ld rfl
set_option maxRecDepth 100000 in
theorem q165_700 (d : Nat) (a1 : Int) (a0 : Nat) (l0 l1 l2 l3 : Option sf_V) (s2 : sf_V) (V : sf_MV) (sc : Option (List Int)) (Q : Option sf_V → sf_M → Prop) (h : sf_cls a0 = 12) : sf_wp (d + 1) sc 165 700 [l0, l1, l2, l3] [.inl a1, .inr (.inl (some a0)), s2] (sf_E V) Q = sf_wp d none 152 0 [some (.inr (.inl (some a0))), some (.inl a1), none, none, none] [] (sf_E V) (fun r M1 => sf_wp (d + 1) sc 165 703 [l0, l1, l2, l3] (r.toList ++ [s2]) M1 Q) := sf_qV h rfl (by decide) ⟨⟨Nat.le_of_ble_eq_true rfl, Nat.le_of_ble_eq_true rfl, Nat.le_of_ble_eq_true rfl⟩, rfl⟩ rfl rfl rfl
set_option maxRecDepth 100000 in
theorem q165_703 (d : Nat) (z : Int) (x : Int) (l0 l1 l2 l3 : Option sf_V) (M : sf_M) (sc : Option (List Int)) (Q : Option sf_V → sf_M → Prop) : sf_wp d sc 165 703 [l0, l1, l2, l3] [.inl z, .inl x] M Q = if x = z then sf_wp d sc 165 968 [l0, l1, l2, l3] [] M Q else sf_wp d sc 165 706 [l0, l1, l2, l3] [] M Q := sf_qic_eq rfl
set_option maxRecDepth 100000 in
theorem q165_706 (d : Nat) (l0 l1 l2 l3 : Option sf_V) (M : sf_M) (sc : Option (List Int)) (Q : Option sf_V → sf_M → Prop) : sf_wp d sc 165 706 [l0, l1, l2, l3] [] M Q = sf_wp d sc 165 707 [l0, l1, l2, l3] [.inl 0] M Q := sf_q rfl rfl
set_option maxRecDepth 100000 in
theorem q165_707 (d : Nat) (x : Int) (l0 l1 l2 l3 : Option sf_V) (M : sf_M) (sc : Option (List Int)) (Q : Option sf_V → sf_M → Prop) : sf_wp d sc 165 707 [l0, l1, l2, l3] [.inl x] M Q = ((x = 0 ∨ x = 1) ∧ Q (some (.inl x)) M) := sf_qRz rfl
set_option maxRecDepth 100000 in
theorem q165_708 (d : Nat) (x : Nat) (l0 l2 l3 : Option sf_V) (M : sf_M) (sc : Option (List Int)) (Q : Option sf_V → sf_M → Prop) : sf_wp d sc 165 708 [l0, some (.inr (.inl (some x))), l2, l3] [] M Q = sf_wp d sc 165 709 [l0, some (.inr (.inl (some x))), l2, l3] [.inr (.inl (some x))] M Q := sf_q rfl rfl
set_option maxRecDepth 100000 in
theorem q165_709 (d : Nat) (l1 l2 l3 : Option sf_V) (s0 : sf_V) (M : sf_M) (sc : Option (List Int)) (Q : Option sf_V → sf_M → Prop) : sf_wp d sc 165 709 [some (.inr (.inr (.inr ()))), l1, l2, l3] [s0] M Q = sf_wp d sc 165 710 [some (.inr (.inr (.inr ()))), l1, l2, l3] [.inr (.inr (.inr ())), s0] M Q := sf_q rfl rfl
set_option maxRecDepth 100000 in
theorem q165_710 (d : Nat) (x : Int) (l0 l1 l2 : Option sf_V) (s0 s1 : sf_V) (M : sf_M) (sc : Option (List Int)) (Q : Option sf_V → sf_M → Prop) : sf_wp d sc 165 710 [l0, l1, l2, some (.inl x)] [s0, s1] M Q = sf_wp d sc 165 711 [l0, l1, l2, some (.inl x)] [.inl x, s0, s1] M Q := sf_q rfl rfl
set_option maxRecDepth 100000 in
theorem q165_711 (d : Nat) (l0 l1 l2 l3 : Option sf_V) (s0 s1 s2 : sf_V) (M : sf_M) (sc : Option (List Int)) (Q : Option sf_V → sf_M → Prop) : sf_wp d sc 165 711 [l0, l1, l2, l3] [s0, s1, s2] M Q = sf_wp d sc 165 712 [l0, l1, l2, l3] [.inl 1, s0, s1, s2] M Q := sf_q rfl rfl
set_option maxRecDepth 100000 in
theorem q165_712 (d : Nat) (z : Int) (x : Int) (l0 l1 l2 l3 : Option sf_V) (s2 s3 : sf_V) (M : sf_M) (sc : Option (List Int)) (Q : Option sf_V → sf_M → Prop) : sf_wp d sc 165 712 [l0, l1, l2, l3] [.inl z, .inl x, s2, s3] M Q = sf_wp d sc 165 713 [l0, l1, l2, l3] [.inl (sf_w (x + z)), s2, s3] M Q := sf_q rfl rfl
set_option maxRecDepth 100000 in
theorem q165_713 (d : Nat) (x : Int) (l0 l1 l2 l3 : Option sf_V) (s2 : sf_V) (M : sf_M) (xs : List Int) (Q : Option sf_V → sf_M → Prop) : sf_wp d (some xs) 165 713 [l0, l1, l2, l3] [.inl x, .inr (.inr (.inr ())), s2] M Q = ((0 ≤ x ∧ x < xs.length) ∧ sf_wp d (some xs) 165 714 [l0, l1, l2, l3] [.inl (xs.getD x.toNat 0), s2] M Q) := sf_qS_ld rfl
set_option maxRecDepth 100000 in
theorem q165_714 (d : Nat) (a1 : Int) (a0 : Nat) (l0 l1 l2 l3 : Option sf_V) (V : sf_MV) (sc : Option (List Int)) (Q : Option sf_V → sf_M → Prop) (h : sf_cls a0 = 11) : sf_wp (d + 1) sc 165 714 [l0, l1, l2, l3] [.inl a1, .inr (.inl (some a0))] (sf_E V) Q = sf_wp d none 80 0 [some (.inr (.inl (some a0))), some (.inl a1)] [] (sf_E V) (fun r M1 => sf_wp (d + 1) sc 165 717 [l0, l1, l2, l3] (r.toList ++ []) M1 Q) := sf_qV h rfl (by decide) ⟨⟨Nat.le_of_ble_eq_true rfl, Nat.le_of_ble_eq_true rfl, Nat.le_of_ble_eq_true rfl⟩, rfl⟩ rfl rfl rfl
set_option maxRecDepth 100000 in
theorem q165_717 (d : Nat) (x : Nat) (l0 l1 l3 : Option sf_V) (s0 : sf_V) (M : sf_M) (sc : Option (List Int)) (Q : Option sf_V → sf_M → Prop) : sf_wp d sc 165 717 [l0, l1, some (.inr (.inl (some x))), l3] [s0] M Q = sf_wp d sc 165 718 [l0, l1, some (.inr (.inl (some x))), l3] [.inr (.inl (some x)), s0] M Q := sf_q rfl rfl
set_option maxRecDepth 100000 in
theorem q165_718 (d : Nat) (l1 l2 l3 : Option sf_V) (s0 s1 : sf_V) (M : sf_M) (sc : Option (List Int)) (Q : Option sf_V → sf_M → Prop) : sf_wp d sc 165 718 [some (.inr (.inr (.inr ()))), l1, l2, l3] [s0, s1] M Q = sf_wp d sc 165 719 [some (.inr (.inr (.inr ()))), l1, l2, l3] [.inr (.inr (.inr ())), s0, s1] M Q := sf_q rfl rfl
set_option maxRecDepth 100000 in
theorem q165_719 (d : Nat) (x : Int) (l0 l1 l2 : Option sf_V) (s0 s1 s2 : sf_V) (M : sf_M) (sc : Option (List Int)) (Q : Option sf_V → sf_M → Prop) : sf_wp d sc 165 719 [l0, l1, l2, some (.inl x)] [s0, s1, s2] M Q = sf_wp d sc 165 720 [l0, l1, l2, some (.inl x)] [.inl x, s0, s1, s2] M Q := sf_q rfl rfl
set_option maxRecDepth 100000 in
theorem q165_720 (d : Nat) (l0 l1 l2 l3 : Option sf_V) (s0 s1 s2 s3 : sf_V) (M : sf_M) (sc : Option (List Int)) (Q : Option sf_V → sf_M → Prop) : sf_wp d sc 165 720 [l0, l1, l2, l3] [s0, s1, s2, s3] M Q = sf_wp d sc 165 721 [l0, l1, l2, l3] [.inl 1, s0, s1, s2, s3] M Q := sf_q rfl rfl
set_option maxRecDepth 100000 in
theorem q165_721 (d : Nat) (z : Int) (x : Int) (l0 l1 l2 l3 : Option sf_V) (s2 s3 s4 : sf_V) (M : sf_M) (sc : Option (List Int)) (Q : Option sf_V → sf_M → Prop) : sf_wp d sc 165 721 [l0, l1, l2, l3] [.inl z, .inl x, s2, s3, s4] M Q = sf_wp d sc 165 722 [l0, l1, l2, l3] [.inl (sf_w (x + z)), s2, s3, s4] M Q := sf_q rfl rfl
set_option maxRecDepth 100000 in
theorem q165_722 (d : Nat) (x : Int) (l0 l1 l2 l3 : Option sf_V) (s2 s3 : sf_V) (M : sf_M) (xs : List Int) (Q : Option sf_V → sf_M → Prop) : sf_wp d (some xs) 165 722 [l0, l1, l2, l3] [.inl x, .inr (.inr (.inr ())), s2, s3] M Q = ((0 ≤ x ∧ x < xs.length) ∧ sf_wp d (some xs) 165 723 [l0, l1, l2, l3] [.inl (xs.getD x.toNat 0), s2, s3] M Q) := sf_qS_ld rfl
set_option maxRecDepth 100000 in
theorem q165_723 (d : Nat) (a1 : Int) (a0 : Nat) (l0 l1 l2 l3 : Option sf_V) (s2 : sf_V) (V : sf_MV) (sc : Option (List Int)) (Q : Option sf_V → sf_M → Prop) (h : sf_cls a0 = 12) : sf_wp (d + 1) sc 165 723 [l0, l1, l2, l3] [.inl a1, .inr (.inl (some a0)), s2] (sf_E V) Q = sf_wp d none 153 0 [some (.inr (.inl (some a0))), some (.inl a1), none] [] (sf_E V) (fun r M1 => sf_wp (d + 1) sc 165 726 [l0, l1, l2, l3] (r.toList ++ [s2]) M1 Q) := sf_qV h rfl (by decide) ⟨⟨Nat.le_of_ble_eq_true rfl, Nat.le_of_ble_eq_true rfl, Nat.le_of_ble_eq_true rfl⟩, rfl⟩ rfl rfl rfl
set_option maxRecDepth 100000 in
theorem q165_726 (d : Nat) (z : Int) (x : Int) (l0 l1 l2 l3 : Option sf_V) (M : sf_M) (sc : Option (List Int)) (Q : Option sf_V → sf_M → Prop) : sf_wp d sc 165 726 [l0, l1, l2, l3] [.inl z, .inl x] M Q = if x = z then sf_wp d sc 165 968 [l0, l1, l2, l3] [] M Q else sf_wp d sc 165 729 [l0, l1, l2, l3] [] M Q := sf_qic_eq rfl
set_option maxRecDepth 100000 in
theorem q165_729 (d : Nat) (l0 l1 l2 l3 : Option sf_V) (M : sf_M) (sc : Option (List Int)) (Q : Option sf_V → sf_M → Prop) : sf_wp d sc 165 729 [l0, l1, l2, l3] [] M Q = sf_wp d sc 165 730 [l0, l1, l2, l3] [.inl 0] M Q := sf_q rfl rfl
set_option maxRecDepth 100000 in
theorem q165_730 (d : Nat) (x : Int) (l0 l1 l2 l3 : Option sf_V) (M : sf_M) (sc : Option (List Int)) (Q : Option sf_V → sf_M → Prop) : sf_wp d sc 165 730 [l0, l1, l2, l3] [.inl x] M Q = ((x = 0 ∨ x = 1) ∧ Q (some (.inl x)) M) := sf_qRz rfl
set_option maxRecDepth 100000 in
theorem q165_731 (d : Nat) (x : Nat) (l0 l2 l3 : Option sf_V) (M : sf_M) (sc : Option (List Int)) (Q : Option sf_V → sf_M → Prop) : sf_wp d sc 165 731 [l0, some (.inr (.inl (some x))), l2, l3] [] M Q = sf_wp d sc 165 732 [l0, some (.inr (.inl (some x))), l2, l3] [.inr (.inl (some x))] M Q := sf_q rfl rfl
set_option maxRecDepth 100000 in
theorem q165_732 (d : Nat) (l1 l2 l3 : Option sf_V) (s0 : sf_V) (M : sf_M) (sc : Option (List Int)) (Q : Option sf_V → sf_M → Prop) : sf_wp d sc 165 732 [some (.inr (.inr (.inr ()))), l1, l2, l3] [s0] M Q = sf_wp d sc 165 733 [some (.inr (.inr (.inr ()))), l1, l2, l3] [.inr (.inr (.inr ())), s0] M Q := sf_q rfl rfl
set_option maxRecDepth 100000 in
theorem q165_733 (d : Nat) (x : Int) (l0 l1 l2 : Option sf_V) (s0 s1 : sf_V) (M : sf_M) (sc : Option (List Int)) (Q : Option sf_V → sf_M → Prop) : sf_wp d sc 165 733 [l0, l1, l2, some (.inl x)] [s0, s1] M Q = sf_wp d sc 165 734 [l0, l1, l2, some (.inl x)] [.inl x, s0, s1] M Q := sf_q rfl rfl
set_option maxRecDepth 100000 in
theorem q165_734 (d : Nat) (l0 l1 l2 l3 : Option sf_V) (s0 s1 s2 : sf_V) (M : sf_M) (sc : Option (List Int)) (Q : Option sf_V → sf_M → Prop) : sf_wp d sc 165 734 [l0, l1, l2, l3] [s0, s1, s2] M Q = sf_wp d sc 165 735 [l0, l1, l2, l3] [.inl 1, s0, s1, s2] M Q := sf_q rfl rfl
set_option maxRecDepth 100000 in
theorem q165_735 (d : Nat) (z : Int) (x : Int) (l0 l1 l2 l3 : Option sf_V) (s2 s3 : sf_V) (M : sf_M) (sc : Option (List Int)) (Q : Option sf_V → sf_M → Prop) : sf_wp d sc 165 735 [l0, l1, l2, l3] [.inl z, .inl x, s2, s3] M Q = sf_wp d sc 165 736 [l0, l1, l2, l3] [.inl (sf_w (x + z)), s2, s3] M Q := sf_q rfl rfl
set_option maxRecDepth 100000 in
theorem q165_736 (d : Nat) (x : Int) (l0 l1 l2 l3 : Option sf_V) (s2 : sf_V) (M : sf_M) (xs : List Int) (Q : Option sf_V → sf_M → Prop) : sf_wp d (some xs) 165 736 [l0, l1, l2, l3] [.inl x, .inr (.inr (.inr ())), s2] M Q = ((0 ≤ x ∧ x < xs.length) ∧ sf_wp d (some xs) 165 737 [l0, l1, l2, l3] [.inl (xs.getD x.toNat 0), s2] M Q) := sf_qS_ld rfl
set_option maxRecDepth 100000 in
theorem q165_737 (d : Nat) (l1 l2 l3 : Option sf_V) (s0 s1 : sf_V) (M : sf_M) (sc : Option (List Int)) (Q : Option sf_V → sf_M → Prop) : sf_wp d sc 165 737 [some (.inr (.inr (.inr ()))), l1, l2, l3] [s0, s1] M Q = sf_wp d sc 165 738 [some (.inr (.inr (.inr ()))), l1, l2, l3] [.inr (.inr (.inr ())), s0, s1] M Q := sf_q rfl rfl
set_option maxRecDepth 100000 in
theorem q165_738 (d : Nat) (x : Int) (l0 l1 l2 : Option sf_V) (s0 s1 s2 : sf_V) (M : sf_M) (sc : Option (List Int)) (Q : Option sf_V → sf_M → Prop) : sf_wp d sc 165 738 [l0, l1, l2, some (.inl x)] [s0, s1, s2] M Q = sf_wp d sc 165 739 [l0, l1, l2, some (.inl x)] [.inl x, s0, s1, s2] M Q := sf_q rfl rfl
set_option maxRecDepth 100000 in
theorem q165_739 (d : Nat) (l0 l1 l2 l3 : Option sf_V) (s0 s1 s2 s3 : sf_V) (M : sf_M) (sc : Option (List Int)) (Q : Option sf_V → sf_M → Prop) : sf_wp d sc 165 739 [l0, l1, l2, l3] [s0, s1, s2, s3] M Q = sf_wp d sc 165 740 [l0, l1, l2, l3] [.inl 2, s0, s1, s2, s3] M Q := sf_q rfl rfl
set_option maxRecDepth 100000 in
theorem q165_740 (d : Nat) (z : Int) (x : Int) (l0 l1 l2 l3 : Option sf_V) (s2 s3 s4 : sf_V) (M : sf_M) (sc : Option (List Int)) (Q : Option sf_V → sf_M → Prop) : sf_wp d sc 165 740 [l0, l1, l2, l3] [.inl z, .inl x, s2, s3, s4] M Q = sf_wp d sc 165 741 [l0, l1, l2, l3] [.inl (sf_w (x + z)), s2, s3, s4] M Q := sf_q rfl rfl
set_option maxRecDepth 100000 in
theorem q165_741 (d : Nat) (x : Int) (l0 l1 l2 l3 : Option sf_V) (s2 s3 : sf_V) (M : sf_M) (xs : List Int) (Q : Option sf_V → sf_M → Prop) : sf_wp d (some xs) 165 741 [l0, l1, l2, l3] [.inl x, .inr (.inr (.inr ())), s2, s3] M Q = ((0 ≤ x ∧ x < xs.length) ∧ sf_wp d (some xs) 165 742 [l0, l1, l2, l3] [.inl (xs.getD x.toNat 0), s2, s3] M Q) := sf_qS_ld rfl
set_option maxRecDepth 100000 in
theorem q165_742 (d : Nat) (l1 l2 l3 : Option sf_V) (s0 s1 s2 : sf_V) (M : sf_M) (sc : Option (List Int)) (Q : Option sf_V → sf_M → Prop) : sf_wp d sc 165 742 [some (.inr (.inr (.inr ()))), l1, l2, l3] [s0, s1, s2] M Q = sf_wp d sc 165 743 [some (.inr (.inr (.inr ()))), l1, l2, l3] [.inr (.inr (.inr ())), s0, s1, s2] M Q := sf_q rfl rfl
set_option maxRecDepth 100000 in
theorem q165_743 (d : Nat) (x : Int) (l0 l1 l2 : Option sf_V) (s0 s1 s2 s3 : sf_V) (M : sf_M) (sc : Option (List Int)) (Q : Option sf_V → sf_M → Prop) : sf_wp d sc 165 743 [l0, l1, l2, some (.inl x)] [s0, s1, s2, s3] M Q = sf_wp d sc 165 744 [l0, l1, l2, some (.inl x)] [.inl x, s0, s1, s2, s3] M Q := sf_q rfl rfl
set_option maxRecDepth 100000 in
theorem q165_744 (d : Nat) (l0 l1 l2 l3 : Option sf_V) (s0 s1 s2 s3 s4 : sf_V) (M : sf_M) (sc : Option (List Int)) (Q : Option sf_V → sf_M → Prop) : sf_wp d sc 165 744 [l0, l1, l2, l3] [s0, s1, s2, s3, s4] M Q = sf_wp d sc 165 745 [l0, l1, l2, l3] [.inl 3, s0, s1, s2, s3, s4] M Q := sf_q rfl rfl
set_option maxRecDepth 100000 in
theorem q165_745 (d : Nat) (z : Int) (x : Int) (l0 l1 l2 l3 : Option sf_V) (s2 s3 s4 s5 : sf_V) (M : sf_M) (sc : Option (List Int)) (Q : Option sf_V → sf_M → Prop) : sf_wp d sc 165 745 [l0, l1, l2, l3] [.inl z, .inl x, s2, s3, s4, s5] M Q = sf_wp d sc 165 746 [l0, l1, l2, l3] [.inl (sf_w (x + z)), s2, s3, s4, s5] M Q := sf_q rfl rfl
set_option maxRecDepth 100000 in
theorem q165_746 (d : Nat) (x : Int) (l0 l1 l2 l3 : Option sf_V) (s2 s3 s4 : sf_V) (M : sf_M) (xs : List Int) (Q : Option sf_V → sf_M → Prop) : sf_wp d (some xs) 165 746 [l0, l1, l2, l3] [.inl x, .inr (.inr (.inr ())), s2, s3, s4] M Q = ((0 ≤ x ∧ x < xs.length) ∧ sf_wp d (some xs) 165 747 [l0, l1, l2, l3] [.inl (xs.getD x.toNat 0), s2, s3, s4] M Q) := sf_qS_ld rfl
set_option maxRecDepth 100000 in
theorem q165_747 (d : Nat) (l1 l2 l3 : Option sf_V) (s0 s1 s2 s3 : sf_V) (M : sf_M) (sc : Option (List Int)) (Q : Option sf_V → sf_M → Prop) : sf_wp d sc 165 747 [some (.inr (.inr (.inr ()))), l1, l2, l3] [s0, s1, s2, s3] M Q = sf_wp d sc 165 748 [some (.inr (.inr (.inr ()))), l1, l2, l3] [.inr (.inr (.inr ())), s0, s1, s2, s3] M Q := sf_q rfl rfl
set_option maxRecDepth 100000 in
theorem q165_748 (d : Nat) (x : Int) (l0 l1 l2 : Option sf_V) (s0 s1 s2 s3 s4 : sf_V) (M : sf_M) (sc : Option (List Int)) (Q : Option sf_V → sf_M → Prop) : sf_wp d sc 165 748 [l0, l1, l2, some (.inl x)] [s0, s1, s2, s3, s4] M Q = sf_wp d sc 165 749 [l0, l1, l2, some (.inl x)] [.inl x, s0, s1, s2, s3, s4] M Q := sf_q rfl rfl
set_option maxRecDepth 100000 in
theorem q165_749 (d : Nat) (l0 l1 l2 l3 : Option sf_V) (s0 s1 s2 s3 s4 s5 : sf_V) (M : sf_M) (sc : Option (List Int)) (Q : Option sf_V → sf_M → Prop) : sf_wp d sc 165 749 [l0, l1, l2, l3] [s0, s1, s2, s3, s4, s5] M Q = sf_wp d sc 165 750 [l0, l1, l2, l3] [.inl 4, s0, s1, s2, s3, s4, s5] M Q := sf_q rfl rfl
set_option maxRecDepth 100000 in
theorem q165_750 (d : Nat) (z : Int) (x : Int) (l0 l1 l2 l3 : Option sf_V) (s2 s3 s4 s5 s6 : sf_V) (M : sf_M) (sc : Option (List Int)) (Q : Option sf_V → sf_M → Prop) : sf_wp d sc 165 750 [l0, l1, l2, l3] [.inl z, .inl x, s2, s3, s4, s5, s6] M Q = sf_wp d sc 165 751 [l0, l1, l2, l3] [.inl (sf_w (x + z)), s2, s3, s4, s5, s6] M Q := sf_q rfl rfl
set_option maxRecDepth 100000 in
theorem q165_751 (d : Nat) (x : Int) (l0 l1 l2 l3 : Option sf_V) (s2 s3 s4 s5 : sf_V) (M : sf_M) (xs : List Int) (Q : Option sf_V → sf_M → Prop) : sf_wp d (some xs) 165 751 [l0, l1, l2, l3] [.inl x, .inr (.inr (.inr ())), s2, s3, s4, s5] M Q = ((0 ≤ x ∧ x < xs.length) ∧ sf_wp d (some xs) 165 752 [l0, l1, l2, l3] [.inl (xs.getD x.toNat 0), s2, s3, s4, s5] M Q) := sf_qS_ld rfl
set_option maxRecDepth 100000 in
theorem q165_752 (d : Nat) (a4 : Int) (a3 : Int) (a2 : Int) (a1 : Int) (a0 : Nat) (l0 l1 l2 l3 : Option sf_V) (V : sf_MV) (sc : Option (List Int)) (Q : Option sf_V → sf_M → Prop) (h : sf_cls a0 = 11) : sf_wp (d + 1) sc 165 752 [l0, l1, l2, l3] [.inl a4, .inl a3, .inl a2, .inl a1, .inr (.inl (some a0))] (sf_E V) Q = sf_wp d none 81 0 [some (.inr (.inl (some a0))), some (.inl a1), some (.inl a2), some (.inl a3), some (.inl a4)] [] (sf_E V) (fun r M1 => sf_wp (d + 1) sc 165 755 [l0, l1, l2, l3] (r.toList ++ []) M1 Q) := sf_qV h rfl (by decide) ⟨⟨Nat.le_of_ble_eq_true rfl, Nat.le_of_ble_eq_true rfl, Nat.le_of_ble_eq_true rfl⟩, rfl⟩ rfl rfl rfl
set_option maxRecDepth 100000 in
theorem q165_755 (d : Nat) (x : Nat) (l0 l1 l3 : Option sf_V) (s0 : sf_V) (M : sf_M) (sc : Option (List Int)) (Q : Option sf_V → sf_M → Prop) : sf_wp d sc 165 755 [l0, l1, some (.inr (.inl (some x))), l3] [s0] M Q = sf_wp d sc 165 756 [l0, l1, some (.inr (.inl (some x))), l3] [.inr (.inl (some x)), s0] M Q := sf_q rfl rfl
set_option maxRecDepth 100000 in
theorem q165_756 (d : Nat) (l1 l2 l3 : Option sf_V) (s0 s1 : sf_V) (M : sf_M) (sc : Option (List Int)) (Q : Option sf_V → sf_M → Prop) : sf_wp d sc 165 756 [some (.inr (.inr (.inr ()))), l1, l2, l3] [s0, s1] M Q = sf_wp d sc 165 757 [some (.inr (.inr (.inr ()))), l1, l2, l3] [.inr (.inr (.inr ())), s0, s1] M Q := sf_q rfl rfl
set_option maxRecDepth 100000 in
theorem q165_757 (d : Nat) (x : Int) (l0 l1 l2 : Option sf_V) (s0 s1 s2 : sf_V) (M : sf_M) (sc : Option (List Int)) (Q : Option sf_V → sf_M → Prop) : sf_wp d sc 165 757 [l0, l1, l2, some (.inl x)] [s0, s1, s2] M Q = sf_wp d sc 165 758 [l0, l1, l2, some (.inl x)] [.inl x, s0, s1, s2] M Q := sf_q rfl rfl
set_option maxRecDepth 100000 in
theorem q165_758 (d : Nat) (l0 l1 l2 l3 : Option sf_V) (s0 s1 s2 s3 : sf_V) (M : sf_M) (sc : Option (List Int)) (Q : Option sf_V → sf_M → Prop) : sf_wp d sc 165 758 [l0, l1, l2, l3] [s0, s1, s2, s3] M Q = sf_wp d sc 165 759 [l0, l1, l2, l3] [.inl 1, s0, s1, s2, s3] M Q := sf_q rfl rfl
set_option maxRecDepth 100000 in
theorem q165_759 (d : Nat) (z : Int) (x : Int) (l0 l1 l2 l3 : Option sf_V) (s2 s3 s4 : sf_V) (M : sf_M) (sc : Option (List Int)) (Q : Option sf_V → sf_M → Prop) : sf_wp d sc 165 759 [l0, l1, l2, l3] [.inl z, .inl x, s2, s3, s4] M Q = sf_wp d sc 165 760 [l0, l1, l2, l3] [.inl (sf_w (x + z)), s2, s3, s4] M Q := sf_q rfl rfl
set_option maxRecDepth 100000 in
theorem q165_760 (d : Nat) (x : Int) (l0 l1 l2 l3 : Option sf_V) (s2 s3 : sf_V) (M : sf_M) (xs : List Int) (Q : Option sf_V → sf_M → Prop) : sf_wp d (some xs) 165 760 [l0, l1, l2, l3] [.inl x, .inr (.inr (.inr ())), s2, s3] M Q = ((0 ≤ x ∧ x < xs.length) ∧ sf_wp d (some xs) 165 761 [l0, l1, l2, l3] [.inl (xs.getD x.toNat 0), s2, s3] M Q) := sf_qS_ld rfl
set_option maxRecDepth 100000 in
theorem q165_761 (d : Nat) (l1 l2 l3 : Option sf_V) (s0 s1 s2 : sf_V) (M : sf_M) (sc : Option (List Int)) (Q : Option sf_V → sf_M → Prop) : sf_wp d sc 165 761 [some (.inr (.inr (.inr ()))), l1, l2, l3] [s0, s1, s2] M Q = sf_wp d sc 165 762 [some (.inr (.inr (.inr ()))), l1, l2, l3] [.inr (.inr (.inr ())), s0, s1, s2] M Q := sf_q rfl rfl
set_option maxRecDepth 100000 in
theorem q165_762 (d : Nat) (x : Int) (l0 l1 l2 : Option sf_V) (s0 s1 s2 s3 : sf_V) (M : sf_M) (sc : Option (List Int)) (Q : Option sf_V → sf_M → Prop) : sf_wp d sc 165 762 [l0, l1, l2, some (.inl x)] [s0, s1, s2, s3] M Q = sf_wp d sc 165 763 [l0, l1, l2, some (.inl x)] [.inl x, s0, s1, s2, s3] M Q := sf_q rfl rfl
set_option maxRecDepth 100000 in
theorem q165_763 (d : Nat) (l0 l1 l2 l3 : Option sf_V) (s0 s1 s2 s3 s4 : sf_V) (M : sf_M) (sc : Option (List Int)) (Q : Option sf_V → sf_M → Prop) : sf_wp d sc 165 763 [l0, l1, l2, l3] [s0, s1, s2, s3, s4] M Q = sf_wp d sc 165 764 [l0, l1, l2, l3] [.inl 2, s0, s1, s2, s3, s4] M Q := sf_q rfl rfl
set_option maxRecDepth 100000 in
theorem q165_764 (d : Nat) (z : Int) (x : Int) (l0 l1 l2 l3 : Option sf_V) (s2 s3 s4 s5 : sf_V) (M : sf_M) (sc : Option (List Int)) (Q : Option sf_V → sf_M → Prop) : sf_wp d sc 165 764 [l0, l1, l2, l3] [.inl z, .inl x, s2, s3, s4, s5] M Q = sf_wp d sc 165 765 [l0, l1, l2, l3] [.inl (sf_w (x + z)), s2, s3, s4, s5] M Q := sf_q rfl rfl
set_option maxRecDepth 100000 in
theorem q165_765 (d : Nat) (x : Int) (l0 l1 l2 l3 : Option sf_V) (s2 s3 s4 : sf_V) (M : sf_M) (xs : List Int) (Q : Option sf_V → sf_M → Prop) : sf_wp d (some xs) 165 765 [l0, l1, l2, l3] [.inl x, .inr (.inr (.inr ())), s2, s3, s4] M Q = ((0 ≤ x ∧ x < xs.length) ∧ sf_wp d (some xs) 165 766 [l0, l1, l2, l3] [.inl (xs.getD x.toNat 0), s2, s3, s4] M Q) := sf_qS_ld rfl
set_option maxRecDepth 100000 in
theorem q165_766 (d : Nat) (l1 l2 l3 : Option sf_V) (s0 s1 s2 s3 : sf_V) (M : sf_M) (sc : Option (List Int)) (Q : Option sf_V → sf_M → Prop) : sf_wp d sc 165 766 [some (.inr (.inr (.inr ()))), l1, l2, l3] [s0, s1, s2, s3] M Q = sf_wp d sc 165 767 [some (.inr (.inr (.inr ()))), l1, l2, l3] [.inr (.inr (.inr ())), s0, s1, s2, s3] M Q := sf_q rfl rfl
set_option maxRecDepth 100000 in
theorem q165_767 (d : Nat) (x : Int) (l0 l1 l2 : Option sf_V) (s0 s1 s2 s3 s4 : sf_V) (M : sf_M) (sc : Option (List Int)) (Q : Option sf_V → sf_M → Prop) : sf_wp d sc 165 767 [l0, l1, l2, some (.inl x)] [s0, s1, s2, s3, s4] M Q = sf_wp d sc 165 768 [l0, l1, l2, some (.inl x)] [.inl x, s0, s1, s2, s3, s4] M Q := sf_q rfl rfl
set_option maxRecDepth 100000 in
theorem q165_768 (d : Nat) (l0 l1 l2 l3 : Option sf_V) (s0 s1 s2 s3 s4 s5 : sf_V) (M : sf_M) (sc : Option (List Int)) (Q : Option sf_V → sf_M → Prop) : sf_wp d sc 165 768 [l0, l1, l2, l3] [s0, s1, s2, s3, s4, s5] M Q = sf_wp d sc 165 769 [l0, l1, l2, l3] [.inl 3, s0, s1, s2, s3, s4, s5] M Q := sf_q rfl rfl
set_option maxRecDepth 100000 in
theorem q165_769 (d : Nat) (z : Int) (x : Int) (l0 l1 l2 l3 : Option sf_V) (s2 s3 s4 s5 s6 : sf_V) (M : sf_M) (sc : Option (List Int)) (Q : Option sf_V → sf_M → Prop) : sf_wp d sc 165 769 [l0, l1, l2, l3] [.inl z, .inl x, s2, s3, s4, s5, s6] M Q = sf_wp d sc 165 770 [l0, l1, l2, l3] [.inl (sf_w (x + z)), s2, s3, s4, s5, s6] M Q := sf_q rfl rfl
set_option maxRecDepth 100000 in
theorem q165_770 (d : Nat) (x : Int) (l0 l1 l2 l3 : Option sf_V) (s2 s3 s4 s5 : sf_V) (M : sf_M) (xs : List Int) (Q : Option sf_V → sf_M → Prop) : sf_wp d (some xs) 165 770 [l0, l1, l2, l3] [.inl x, .inr (.inr (.inr ())), s2, s3, s4, s5] M Q = ((0 ≤ x ∧ x < xs.length) ∧ sf_wp d (some xs) 165 771 [l0, l1, l2, l3] [.inl (xs.getD x.toNat 0), s2, s3, s4, s5] M Q) := sf_qS_ld rfl
set_option maxRecDepth 100000 in
theorem q165_771 (d : Nat) (l1 l2 l3 : Option sf_V) (s0 s1 s2 s3 s4 : sf_V) (M : sf_M) (sc : Option (List Int)) (Q : Option sf_V → sf_M → Prop) : sf_wp d sc 165 771 [some (.inr (.inr (.inr ()))), l1, l2, l3] [s0, s1, s2, s3, s4] M Q = sf_wp d sc 165 772 [some (.inr (.inr (.inr ()))), l1, l2, l3] [.inr (.inr (.inr ())), s0, s1, s2, s3, s4] M Q := sf_q rfl rfl
set_option maxRecDepth 100000 in
theorem q165_772 (d : Nat) (x : Int) (l0 l1 l2 : Option sf_V) (s0 s1 s2 s3 s4 s5 : sf_V) (M : sf_M) (sc : Option (List Int)) (Q : Option sf_V → sf_M → Prop) : sf_wp d sc 165 772 [l0, l1, l2, some (.inl x)] [s0, s1, s2, s3, s4, s5] M Q = sf_wp d sc 165 773 [l0, l1, l2, some (.inl x)] [.inl x, s0, s1, s2, s3, s4, s5] M Q := sf_q rfl rfl
set_option maxRecDepth 100000 in
theorem q165_773 (d : Nat) (l0 l1 l2 l3 : Option sf_V) (s0 s1 s2 s3 s4 s5 s6 : sf_V) (M : sf_M) (sc : Option (List Int)) (Q : Option sf_V → sf_M → Prop) : sf_wp d sc 165 773 [l0, l1, l2, l3] [s0, s1, s2, s3, s4, s5, s6] M Q = sf_wp d sc 165 774 [l0, l1, l2, l3] [.inl 4, s0, s1, s2, s3, s4, s5, s6] M Q := sf_q rfl rfl
set_option maxRecDepth 100000 in
theorem q165_774 (d : Nat) (z : Int) (x : Int) (l0 l1 l2 l3 : Option sf_V) (s2 s3 s4 s5 s6 s7 : sf_V) (M : sf_M) (sc : Option (List Int)) (Q : Option sf_V → sf_M → Prop) : sf_wp d sc 165 774 [l0, l1, l2, l3] [.inl z, .inl x, s2, s3, s4, s5, s6, s7] M Q = sf_wp d sc 165 775 [l0, l1, l2, l3] [.inl (sf_w (x + z)), s2, s3, s4, s5, s6, s7] M Q := sf_q rfl rfl
set_option maxRecDepth 100000 in
theorem q165_775 (d : Nat) (x : Int) (l0 l1 l2 l3 : Option sf_V) (s2 s3 s4 s5 s6 : sf_V) (M : sf_M) (xs : List Int) (Q : Option sf_V → sf_M → Prop) : sf_wp d (some xs) 165 775 [l0, l1, l2, l3] [.inl x, .inr (.inr (.inr ())), s2, s3, s4, s5, s6] M Q = ((0 ≤ x ∧ x < xs.length) ∧ sf_wp d (some xs) 165 776 [l0, l1, l2, l3] [.inl (xs.getD x.toNat 0), s2, s3, s4, s5, s6] M Q) := sf_qS_ld rfl
set_option maxRecDepth 100000 in
theorem q165_776 (d : Nat) (a4 : Int) (a3 : Int) (a2 : Int) (a1 : Int) (a0 : Nat) (l0 l1 l2 l3 : Option sf_V) (s5 : sf_V) (V : sf_MV) (sc : Option (List Int)) (Q : Option sf_V → sf_M → Prop) (h : sf_cls a0 = 12) : sf_wp (d + 1) sc 165 776 [l0, l1, l2, l3] [.inl a4, .inl a3, .inl a2, .inl a1, .inr (.inl (some a0)), s5] (sf_E V) Q = sf_wp d none 154 0 [some (.inr (.inl (some a0))), some (.inl a1), some (.inl a2), some (.inl a3), some (.inl a4), none] [] (sf_E V) (fun r M1 => sf_wp (d + 1) sc 165 779 [l0, l1, l2, l3] (r.toList ++ [s5]) M1 Q) := sf_qV h rfl (by decide) ⟨⟨Nat.le_of_ble_eq_true rfl, Nat.le_of_ble_eq_true rfl, Nat.le_of_ble_eq_true rfl⟩, rfl⟩ rfl rfl rfl
set_option maxRecDepth 100000 in
theorem q165_779 (d : Nat) (z : Int) (x : Int) (l0 l1 l2 l3 : Option sf_V) (M : sf_M) (sc : Option (List Int)) (Q : Option sf_V → sf_M → Prop) : sf_wp d sc 165 779 [l0, l1, l2, l3] [.inl z, .inl x] M Q = if x = z then sf_wp d sc 165 968 [l0, l1, l2, l3] [] M Q else sf_wp d sc 165 782 [l0, l1, l2, l3] [] M Q := sf_qic_eq rfl
set_option maxRecDepth 100000 in
theorem q165_782 (d : Nat) (l0 l1 l2 l3 : Option sf_V) (M : sf_M) (sc : Option (List Int)) (Q : Option sf_V → sf_M → Prop) : sf_wp d sc 165 782 [l0, l1, l2, l3] [] M Q = sf_wp d sc 165 783 [l0, l1, l2, l3] [.inl 0] M Q := sf_q rfl rfl
set_option maxRecDepth 100000 in
theorem q165_783 (d : Nat) (x : Int) (l0 l1 l2 l3 : Option sf_V) (M : sf_M) (sc : Option (List Int)) (Q : Option sf_V → sf_M → Prop) : sf_wp d sc 165 783 [l0, l1, l2, l3] [.inl x] M Q = ((x = 0 ∨ x = 1) ∧ Q (some (.inl x)) M) := sf_qRz rfl
set_option maxRecDepth 100000 in
theorem q165_784 (d : Nat) (x : Nat) (l0 l2 l3 : Option sf_V) (M : sf_M) (sc : Option (List Int)) (Q : Option sf_V → sf_M → Prop) : sf_wp d sc 165 784 [l0, some (.inr (.inl (some x))), l2, l3] [] M Q = sf_wp d sc 165 785 [l0, some (.inr (.inl (some x))), l2, l3] [.inr (.inl (some x))] M Q := sf_q rfl rfl
set_option maxRecDepth 100000 in
theorem q165_785 (d : Nat) (l1 l2 l3 : Option sf_V) (s0 : sf_V) (M : sf_M) (sc : Option (List Int)) (Q : Option sf_V → sf_M → Prop) : sf_wp d sc 165 785 [some (.inr (.inr (.inr ()))), l1, l2, l3] [s0] M Q = sf_wp d sc 165 786 [some (.inr (.inr (.inr ()))), l1, l2, l3] [.inr (.inr (.inr ())), s0] M Q := sf_q rfl rfl
set_option maxRecDepth 100000 in
theorem q165_786 (d : Nat) (x : Int) (l0 l1 l2 : Option sf_V) (s0 s1 : sf_V) (M : sf_M) (sc : Option (List Int)) (Q : Option sf_V → sf_M → Prop) : sf_wp d sc 165 786 [l0, l1, l2, some (.inl x)] [s0, s1] M Q = sf_wp d sc 165 787 [l0, l1, l2, some (.inl x)] [.inl x, s0, s1] M Q := sf_q rfl rfl
set_option maxRecDepth 100000 in
theorem q165_787 (d : Nat) (l0 l1 l2 l3 : Option sf_V) (s0 s1 s2 : sf_V) (M : sf_M) (sc : Option (List Int)) (Q : Option sf_V → sf_M → Prop) : sf_wp d sc 165 787 [l0, l1, l2, l3] [s0, s1, s2] M Q = sf_wp d sc 165 788 [l0, l1, l2, l3] [.inl 1, s0, s1, s2] M Q := sf_q rfl rfl
set_option maxRecDepth 100000 in
theorem q165_788 (d : Nat) (z : Int) (x : Int) (l0 l1 l2 l3 : Option sf_V) (s2 s3 : sf_V) (M : sf_M) (sc : Option (List Int)) (Q : Option sf_V → sf_M → Prop) : sf_wp d sc 165 788 [l0, l1, l2, l3] [.inl z, .inl x, s2, s3] M Q = sf_wp d sc 165 789 [l0, l1, l2, l3] [.inl (sf_w (x + z)), s2, s3] M Q := sf_q rfl rfl
set_option maxRecDepth 100000 in
theorem q165_789 (d : Nat) (x : Int) (l0 l1 l2 l3 : Option sf_V) (s2 : sf_V) (M : sf_M) (xs : List Int) (Q : Option sf_V → sf_M → Prop) : sf_wp d (some xs) 165 789 [l0, l1, l2, l3] [.inl x, .inr (.inr (.inr ())), s2] M Q = ((0 ≤ x ∧ x < xs.length) ∧ sf_wp d (some xs) 165 790 [l0, l1, l2, l3] [.inl (xs.getD x.toNat 0), s2] M Q) := sf_qS_ld rfl
set_option maxRecDepth 100000 in
theorem q165_790 (d : Nat) (a1 : Int) (a0 : Nat) (l0 l1 l2 l3 : Option sf_V) (V : sf_MV) (sc : Option (List Int)) (Q : Option sf_V → sf_M → Prop) (h : sf_cls a0 = 11) : sf_wp (d + 1) sc 165 790 [l0, l1, l2, l3] [.inl a1, .inr (.inl (some a0))] (sf_E V) Q = sf_wp d none 82 0 [some (.inr (.inl (some a0))), some (.inl a1)] [] (sf_E V) (fun r M1 => sf_wp (d + 1) sc 165 793 [l0, l1, l2, l3] (r.toList ++ []) M1 Q) := sf_qV h rfl (by decide) ⟨⟨Nat.le_of_ble_eq_true rfl, Nat.le_of_ble_eq_true rfl, Nat.le_of_ble_eq_true rfl⟩, rfl⟩ rfl rfl rfl
set_option maxRecDepth 100000 in
theorem q165_793 (d : Nat) (x : Nat) (l0 l1 l3 : Option sf_V) (s0 : sf_V) (M : sf_M) (sc : Option (List Int)) (Q : Option sf_V → sf_M → Prop) : sf_wp d sc 165 793 [l0, l1, some (.inr (.inl (some x))), l3] [s0] M Q = sf_wp d sc 165 794 [l0, l1, some (.inr (.inl (some x))), l3] [.inr (.inl (some x)), s0] M Q := sf_q rfl rfl
set_option maxRecDepth 100000 in
theorem q165_794 (d : Nat) (l1 l2 l3 : Option sf_V) (s0 s1 : sf_V) (M : sf_M) (sc : Option (List Int)) (Q : Option sf_V → sf_M → Prop) : sf_wp d sc 165 794 [some (.inr (.inr (.inr ()))), l1, l2, l3] [s0, s1] M Q = sf_wp d sc 165 795 [some (.inr (.inr (.inr ()))), l1, l2, l3] [.inr (.inr (.inr ())), s0, s1] M Q := sf_q rfl rfl
set_option maxRecDepth 100000 in
theorem q165_795 (d : Nat) (x : Int) (l0 l1 l2 : Option sf_V) (s0 s1 s2 : sf_V) (M : sf_M) (sc : Option (List Int)) (Q : Option sf_V → sf_M → Prop) : sf_wp d sc 165 795 [l0, l1, l2, some (.inl x)] [s0, s1, s2] M Q = sf_wp d sc 165 796 [l0, l1, l2, some (.inl x)] [.inl x, s0, s1, s2] M Q := sf_q rfl rfl
set_option maxRecDepth 100000 in
theorem q165_796 (d : Nat) (l0 l1 l2 l3 : Option sf_V) (s0 s1 s2 s3 : sf_V) (M : sf_M) (sc : Option (List Int)) (Q : Option sf_V → sf_M → Prop) : sf_wp d sc 165 796 [l0, l1, l2, l3] [s0, s1, s2, s3] M Q = sf_wp d sc 165 797 [l0, l1, l2, l3] [.inl 1, s0, s1, s2, s3] M Q := sf_q rfl rfl
set_option maxRecDepth 100000 in
theorem q165_797 (d : Nat) (z : Int) (x : Int) (l0 l1 l2 l3 : Option sf_V) (s2 s3 s4 : sf_V) (M : sf_M) (sc : Option (List Int)) (Q : Option sf_V → sf_M → Prop) : sf_wp d sc 165 797 [l0, l1, l2, l3] [.inl z, .inl x, s2, s3, s4] M Q = sf_wp d sc 165 798 [l0, l1, l2, l3] [.inl (sf_w (x + z)), s2, s3, s4] M Q := sf_q rfl rfl
set_option maxRecDepth 100000 in
theorem q165_798 (d : Nat) (x : Int) (l0 l1 l2 l3 : Option sf_V) (s2 s3 : sf_V) (M : sf_M) (xs : List Int) (Q : Option sf_V → sf_M → Prop) : sf_wp d (some xs) 165 798 [l0, l1, l2, l3] [.inl x, .inr (.inr (.inr ())), s2, s3] M Q = ((0 ≤ x ∧ x < xs.length) ∧ sf_wp d (some xs) 165 799 [l0, l1, l2, l3] [.inl (xs.getD x.toNat 0), s2, s3] M Q) := sf_qS_ld rfl
set_option maxRecDepth 100000 in
theorem q165_799 (d : Nat) (a1 : Int) (a0 : Nat) (l0 l1 l2 l3 : Option sf_V) (s2 : sf_V) (V : sf_MV) (sc : Option (List Int)) (Q : Option sf_V → sf_M → Prop) (h : sf_cls a0 = 12) : sf_wp (d + 1) sc 165 799 [l0, l1, l2, l3] [.inl a1, .inr (.inl (some a0)), s2] (sf_E V) Q = sf_wp d none 156 0 [some (.inr (.inl (some a0))), some (.inl a1)] [] (sf_E V) (fun r M1 => sf_wp (d + 1) sc 165 802 [l0, l1, l2, l3] (r.toList ++ [s2]) M1 Q) := sf_qV h rfl (by decide) ⟨⟨Nat.le_of_ble_eq_true rfl, Nat.le_of_ble_eq_true rfl, Nat.le_of_ble_eq_true rfl⟩, rfl⟩ rfl rfl rfl
set_option maxRecDepth 100000 in
theorem q165_802 (d : Nat) (z : Int) (x : Int) (l0 l1 l2 l3 : Option sf_V) (M : sf_M) (sc : Option (List Int)) (Q : Option sf_V → sf_M → Prop) : sf_wp d sc 165 802 [l0, l1, l2, l3] [.inl z, .inl x] M Q = if x = z then sf_wp d sc 165 968 [l0, l1, l2, l3] [] M Q else sf_wp d sc 165 805 [l0, l1, l2, l3] [] M Q := sf_qic_eq rfl
set_option maxRecDepth 100000 in
theorem q165_805 (d : Nat) (l0 l1 l2 l3 : Option sf_V) (M : sf_M) (sc : Option (List Int)) (Q : Option sf_V → sf_M → Prop) : sf_wp d sc 165 805 [l0, l1, l2, l3] [] M Q = sf_wp d sc 165 806 [l0, l1, l2, l3] [.inl 0] M Q := sf_q rfl rfl
set_option maxRecDepth 100000 in
theorem q165_806 (d : Nat) (x : Int) (l0 l1 l2 l3 : Option sf_V) (M : sf_M) (sc : Option (List Int)) (Q : Option sf_V → sf_M → Prop) : sf_wp d sc 165 806 [l0, l1, l2, l3] [.inl x] M Q = ((x = 0 ∨ x = 1) ∧ Q (some (.inl x)) M) := sf_qRz rfl
set_option maxRecDepth 100000 in
theorem q165_807 (d : Nat) (x : Nat) (l0 l2 l3 : Option sf_V) (M : sf_M) (sc : Option (List Int)) (Q : Option sf_V → sf_M → Prop) : sf_wp d sc 165 807 [l0, some (.inr (.inl (some x))), l2, l3] [] M Q = sf_wp d sc 165 808 [l0, some (.inr (.inl (some x))), l2, l3] [.inr (.inl (some x))] M Q := sf_q rfl rfl
set_option maxRecDepth 100000 in
theorem q165_808 (d : Nat) (l1 l2 l3 : Option sf_V) (s0 : sf_V) (M : sf_M) (sc : Option (List Int)) (Q : Option sf_V → sf_M → Prop) : sf_wp d sc 165 808 [some (.inr (.inr (.inr ()))), l1, l2, l3] [s0] M Q = sf_wp d sc 165 809 [some (.inr (.inr (.inr ()))), l1, l2, l3] [.inr (.inr (.inr ())), s0] M Q := sf_q rfl rfl
set_option maxRecDepth 100000 in
theorem q165_809 (d : Nat) (x : Int) (l0 l1 l2 : Option sf_V) (s0 s1 : sf_V) (M : sf_M) (sc : Option (List Int)) (Q : Option sf_V → sf_M → Prop) : sf_wp d sc 165 809 [l0, l1, l2, some (.inl x)] [s0, s1] M Q = sf_wp d sc 165 810 [l0, l1, l2, some (.inl x)] [.inl x, s0, s1] M Q := sf_q rfl rfl
set_option maxRecDepth 100000 in
theorem q165_810 (d : Nat) (l0 l1 l2 l3 : Option sf_V) (s0 s1 s2 : sf_V) (M : sf_M) (sc : Option (List Int)) (Q : Option sf_V → sf_M → Prop) : sf_wp d sc 165 810 [l0, l1, l2, l3] [s0, s1, s2] M Q = sf_wp d sc 165 811 [l0, l1, l2, l3] [.inl 1, s0, s1, s2] M Q := sf_q rfl rfl
set_option maxRecDepth 100000 in
theorem q165_811 (d : Nat) (z : Int) (x : Int) (l0 l1 l2 l3 : Option sf_V) (s2 s3 : sf_V) (M : sf_M) (sc : Option (List Int)) (Q : Option sf_V → sf_M → Prop) : sf_wp d sc 165 811 [l0, l1, l2, l3] [.inl z, .inl x, s2, s3] M Q = sf_wp d sc 165 812 [l0, l1, l2, l3] [.inl (sf_w (x + z)), s2, s3] M Q := sf_q rfl rfl
set_option maxRecDepth 100000 in
theorem q165_812 (d : Nat) (x : Int) (l0 l1 l2 l3 : Option sf_V) (s2 : sf_V) (M : sf_M) (xs : List Int) (Q : Option sf_V → sf_M → Prop) : sf_wp d (some xs) 165 812 [l0, l1, l2, l3] [.inl x, .inr (.inr (.inr ())), s2] M Q = ((0 ≤ x ∧ x < xs.length) ∧ sf_wp d (some xs) 165 813 [l0, l1, l2, l3] [.inl (xs.getD x.toNat 0), s2] M Q) := sf_qS_ld rfl
set_option maxRecDepth 100000 in
theorem q165_813 (d : Nat) (a1 : Int) (a0 : Nat) (l0 l1 l2 l3 : Option sf_V) (V : sf_MV) (sc : Option (List Int)) (Q : Option sf_V → sf_M → Prop) (h : sf_cls a0 = 11) : sf_wp (d + 1) sc 165 813 [l0, l1, l2, l3] [.inl a1, .inr (.inl (some a0))] (sf_E V) Q = sf_wp d none 83 0 [some (.inr (.inl (some a0))), some (.inl a1), none, none, none, none, none] [] (sf_E V) (fun r M1 => sf_wp (d + 1) sc 165 816 [l0, l1, l2, l3] (r.toList ++ []) M1 Q) := sf_qV h rfl (by decide) ⟨⟨Nat.le_of_ble_eq_true rfl, Nat.le_of_ble_eq_true rfl, Nat.le_of_ble_eq_true rfl⟩, rfl⟩ rfl rfl rfl
set_option maxRecDepth 100000 in
theorem q165_816 (d : Nat) (x : Nat) (l0 l1 l3 : Option sf_V) (s0 : sf_V) (M : sf_M) (sc : Option (List Int)) (Q : Option sf_V → sf_M → Prop) : sf_wp d sc 165 816 [l0, l1, some (.inr (.inl (some x))), l3] [s0] M Q = sf_wp d sc 165 817 [l0, l1, some (.inr (.inl (some x))), l3] [.inr (.inl (some x)), s0] M Q := sf_q rfl rfl
set_option maxRecDepth 100000 in
theorem q165_817 (d : Nat) (l1 l2 l3 : Option sf_V) (s0 s1 : sf_V) (M : sf_M) (sc : Option (List Int)) (Q : Option sf_V → sf_M → Prop) : sf_wp d sc 165 817 [some (.inr (.inr (.inr ()))), l1, l2, l3] [s0, s1] M Q = sf_wp d sc 165 818 [some (.inr (.inr (.inr ()))), l1, l2, l3] [.inr (.inr (.inr ())), s0, s1] M Q := sf_q rfl rfl
set_option maxRecDepth 100000 in
theorem q165_818 (d : Nat) (x : Int) (l0 l1 l2 : Option sf_V) (s0 s1 s2 : sf_V) (M : sf_M) (sc : Option (List Int)) (Q : Option sf_V → sf_M → Prop) : sf_wp d sc 165 818 [l0, l1, l2, some (.inl x)] [s0, s1, s2] M Q = sf_wp d sc 165 819 [l0, l1, l2, some (.inl x)] [.inl x, s0, s1, s2] M Q := sf_q rfl rfl
set_option maxRecDepth 100000 in
theorem q165_819 (d : Nat) (l0 l1 l2 l3 : Option sf_V) (s0 s1 s2 s3 : sf_V) (M : sf_M) (sc : Option (List Int)) (Q : Option sf_V → sf_M → Prop) : sf_wp d sc 165 819 [l0, l1, l2, l3] [s0, s1, s2, s3] M Q = sf_wp d sc 165 820 [l0, l1, l2, l3] [.inl 1, s0, s1, s2, s3] M Q := sf_q rfl rfl
set_option maxRecDepth 100000 in
theorem q165_820 (d : Nat) (z : Int) (x : Int) (l0 l1 l2 l3 : Option sf_V) (s2 s3 s4 : sf_V) (M : sf_M) (sc : Option (List Int)) (Q : Option sf_V → sf_M → Prop) : sf_wp d sc 165 820 [l0, l1, l2, l3] [.inl z, .inl x, s2, s3, s4] M Q = sf_wp d sc 165 821 [l0, l1, l2, l3] [.inl (sf_w (x + z)), s2, s3, s4] M Q := sf_q rfl rfl
set_option maxRecDepth 100000 in
theorem q165_821 (d : Nat) (x : Int) (l0 l1 l2 l3 : Option sf_V) (s2 s3 : sf_V) (M : sf_M) (xs : List Int) (Q : Option sf_V → sf_M → Prop) : sf_wp d (some xs) 165 821 [l0, l1, l2, l3] [.inl x, .inr (.inr (.inr ())), s2, s3] M Q = ((0 ≤ x ∧ x < xs.length) ∧ sf_wp d (some xs) 165 822 [l0, l1, l2, l3] [.inl (xs.getD x.toNat 0), s2, s3] M Q) := sf_qS_ld rfl
set_option maxRecDepth 100000 in
theorem q165_822 (d : Nat) (a1 : Int) (a0 : Nat) (l0 l1 l2 l3 : Option sf_V) (s2 : sf_V) (V : sf_MV) (sc : Option (List Int)) (Q : Option sf_V → sf_M → Prop) (h : sf_cls a0 = 12) : sf_wp (d + 1) sc 165 822 [l0, l1, l2, l3] [.inl a1, .inr (.inl (some a0)), s2] (sf_E V) Q = sf_wp d none 157 0 [some (.inr (.inl (some a0))), some (.inl a1), none, none, none, none, none, none, none] [] (sf_E V) (fun r M1 => sf_wp (d + 1) sc 165 825 [l0, l1, l2, l3] (r.toList ++ [s2]) M1 Q) := sf_qV h rfl (by decide) ⟨⟨Nat.le_of_ble_eq_true rfl, Nat.le_of_ble_eq_true rfl, Nat.le_of_ble_eq_true rfl⟩, rfl⟩ rfl rfl rfl
set_option maxRecDepth 100000 in
theorem q165_825 (d : Nat) (z : Int) (x : Int) (l0 l1 l2 l3 : Option sf_V) (M : sf_M) (sc : Option (List Int)) (Q : Option sf_V → sf_M → Prop) : sf_wp d sc 165 825 [l0, l1, l2, l3] [.inl z, .inl x] M Q = if x = z then sf_wp d sc 165 968 [l0, l1, l2, l3] [] M Q else sf_wp d sc 165 828 [l0, l1, l2, l3] [] M Q := sf_qic_eq rfl
set_option maxRecDepth 100000 in
theorem q165_828 (d : Nat) (l0 l1 l2 l3 : Option sf_V) (M : sf_M) (sc : Option (List Int)) (Q : Option sf_V → sf_M → Prop) : sf_wp d sc 165 828 [l0, l1, l2, l3] [] M Q = sf_wp d sc 165 829 [l0, l1, l2, l3] [.inl 0] M Q := sf_q rfl rfl
set_option maxRecDepth 100000 in
theorem q165_829 (d : Nat) (x : Int) (l0 l1 l2 l3 : Option sf_V) (M : sf_M) (sc : Option (List Int)) (Q : Option sf_V → sf_M → Prop) : sf_wp d sc 165 829 [l0, l1, l2, l3] [.inl x] M Q = ((x = 0 ∨ x = 1) ∧ Q (some (.inl x)) M) := sf_qRz rfl
set_option maxRecDepth 100000 in
theorem q165_830 (d : Nat) (x : Nat) (l0 l2 l3 : Option sf_V) (M : sf_M) (sc : Option (List Int)) (Q : Option sf_V → sf_M → Prop) : sf_wp d sc 165 830 [l0, some (.inr (.inl (some x))), l2, l3] [] M Q = sf_wp d sc 165 831 [l0, some (.inr (.inl (some x))), l2, l3] [.inr (.inl (some x))] M Q := sf_q rfl rfl
set_option maxRecDepth 100000 in
theorem q165_831 (d : Nat) (l1 l2 l3 : Option sf_V) (s0 : sf_V) (M : sf_M) (sc : Option (List Int)) (Q : Option sf_V → sf_M → Prop) : sf_wp d sc 165 831 [some (.inr (.inr (.inr ()))), l1, l2, l3] [s0] M Q = sf_wp d sc 165 832 [some (.inr (.inr (.inr ()))), l1, l2, l3] [.inr (.inr (.inr ())), s0] M Q := sf_q rfl rfl
set_option maxRecDepth 100000 in
theorem q165_832 (d : Nat) (x : Int) (l0 l1 l2 : Option sf_V) (s0 s1 : sf_V) (M : sf_M) (sc : Option (List Int)) (Q : Option sf_V → sf_M → Prop) : sf_wp d sc 165 832 [l0, l1, l2, some (.inl x)] [s0, s1] M Q = sf_wp d sc 165 833 [l0, l1, l2, some (.inl x)] [.inl x, s0, s1] M Q := sf_q rfl rfl
set_option maxRecDepth 100000 in
theorem q165_833 (d : Nat) (l0 l1 l2 l3 : Option sf_V) (s0 s1 s2 : sf_V) (M : sf_M) (sc : Option (List Int)) (Q : Option sf_V → sf_M → Prop) : sf_wp d sc 165 833 [l0, l1, l2, l3] [s0, s1, s2] M Q = sf_wp d sc 165 834 [l0, l1, l2, l3] [.inl 1, s0, s1, s2] M Q := sf_q rfl rfl
set_option maxRecDepth 100000 in
theorem q165_834 (d : Nat) (z : Int) (x : Int) (l0 l1 l2 l3 : Option sf_V) (s2 s3 : sf_V) (M : sf_M) (sc : Option (List Int)) (Q : Option sf_V → sf_M → Prop) : sf_wp d sc 165 834 [l0, l1, l2, l3] [.inl z, .inl x, s2, s3] M Q = sf_wp d sc 165 835 [l0, l1, l2, l3] [.inl (sf_w (x + z)), s2, s3] M Q := sf_q rfl rfl
set_option maxRecDepth 100000 in
theorem q165_835 (d : Nat) (x : Int) (l0 l1 l2 l3 : Option sf_V) (s2 : sf_V) (M : sf_M) (xs : List Int) (Q : Option sf_V → sf_M → Prop) : sf_wp d (some xs) 165 835 [l0, l1, l2, l3] [.inl x, .inr (.inr (.inr ())), s2] M Q = ((0 ≤ x ∧ x < xs.length) ∧ sf_wp d (some xs) 165 836 [l0, l1, l2, l3] [.inl (xs.getD x.toNat 0), s2] M Q) := sf_qS_ld rfl
set_option maxRecDepth 100000 in
theorem q165_836 (d : Nat) (l1 l2 l3 : Option sf_V) (s0 s1 : sf_V) (M : sf_M) (sc : Option (List Int)) (Q : Option sf_V → sf_M → Prop) : sf_wp d sc 165 836 [some (.inr (.inr (.inr ()))), l1, l2, l3] [s0, s1] M Q = sf_wp d sc 165 837 [some (.inr (.inr (.inr ()))), l1, l2, l3] [.inr (.inr (.inr ())), s0, s1] M Q := sf_q rfl rfl
set_option maxRecDepth 100000 in
theorem q165_837 (d : Nat) (x : Int) (l0 l1 l2 : Option sf_V) (s0 s1 s2 : sf_V) (M : sf_M) (sc : Option (List Int)) (Q : Option sf_V → sf_M → Prop) : sf_wp d sc 165 837 [l0, l1, l2, some (.inl x)] [s0, s1, s2] M Q = sf_wp d sc 165 838 [l0, l1, l2, some (.inl x)] [.inl x, s0, s1, s2] M Q := sf_q rfl rfl
set_option maxRecDepth 100000 in
theorem q165_838 (d : Nat) (l0 l1 l2 l3 : Option sf_V) (s0 s1 s2 s3 : sf_V) (M : sf_M) (sc : Option (List Int)) (Q : Option sf_V → sf_M → Prop) : sf_wp d sc 165 838 [l0, l1, l2, l3] [s0, s1, s2, s3] M Q = sf_wp d sc 165 839 [l0, l1, l2, l3] [.inl 2, s0, s1, s2, s3] M Q := sf_q rfl rfl
set_option maxRecDepth 100000 in
theorem q165_839 (d : Nat) (z : Int) (x : Int) (l0 l1 l2 l3 : Option sf_V) (s2 s3 s4 : sf_V) (M : sf_M) (sc : Option (List Int)) (Q : Option sf_V → sf_M → Prop) : sf_wp d sc 165 839 [l0, l1, l2, l3] [.inl z, .inl x, s2, s3, s4] M Q = sf_wp d sc 165 840 [l0, l1, l2, l3] [.inl (sf_w (x + z)), s2, s3, s4] M Q := sf_q rfl rfl
set_option maxRecDepth 100000 in
theorem q165_840 (d : Nat) (x : Int) (l0 l1 l2 l3 : Option sf_V) (s2 s3 : sf_V) (M : sf_M) (xs : List Int) (Q : Option sf_V → sf_M → Prop) : sf_wp d (some xs) 165 840 [l0, l1, l2, l3] [.inl x, .inr (.inr (.inr ())), s2, s3] M Q = ((0 ≤ x ∧ x < xs.length) ∧ sf_wp d (some xs) 165 841 [l0, l1, l2, l3] [.inl (xs.getD x.toNat 0), s2, s3] M Q) := sf_qS_ld rfl
set_option maxRecDepth 100000 in
theorem q165_841 (d : Nat) (a2 : Int) (a1 : Int) (a0 : Nat) (l0 l1 l2 l3 : Option sf_V) (V : sf_MV) (sc : Option (List Int)) (Q : Option sf_V → sf_M → Prop) (h : sf_cls a0 = 11) : sf_wp (d + 1) sc 165 841 [l0, l1, l2, l3] [.inl a2, .inl a1, .inr (.inl (some a0))] (sf_E V) Q = sf_wp d none 84 0 [some (.inr (.inl (some a0))), some (.inl a1), some (.inl a2)] [] (sf_E V) (fun r M1 => sf_wp (d + 1) sc 165 844 [l0, l1, l2, l3] (r.toList ++ []) M1 Q) := sf_qV h rfl (by decide) ⟨⟨Nat.le_of_ble_eq_true rfl, Nat.le_of_ble_eq_true rfl, Nat.le_of_ble_eq_true rfl⟩, rfl⟩ rfl rfl rfl
set_option maxRecDepth 100000 in
theorem q165_844 (d : Nat) (x : Nat) (l0 l1 l3 : Option sf_V) (s0 : sf_V) (M : sf_M) (sc : Option (List Int)) (Q : Option sf_V → sf_M → Prop) : sf_wp d sc 165 844 [l0, l1, some (.inr (.inl (some x))), l3] [s0] M Q = sf_wp d sc 165 845 [l0, l1, some (.inr (.inl (some x))), l3] [.inr (.inl (some x)), s0] M Q := sf_q rfl rfl
set_option maxRecDepth 100000 in
theorem q165_845 (d : Nat) (l1 l2 l3 : Option sf_V) (s0 s1 : sf_V) (M : sf_M) (sc : Option (List Int)) (Q : Option sf_V → sf_M → Prop) : sf_wp d sc 165 845 [some (.inr (.inr (.inr ()))), l1, l2, l3] [s0, s1] M Q = sf_wp d sc 165 846 [some (.inr (.inr (.inr ()))), l1, l2, l3] [.inr (.inr (.inr ())), s0, s1] M Q := sf_q rfl rfl
set_option maxRecDepth 100000 in
theorem q165_846 (d : Nat) (x : Int) (l0 l1 l2 : Option sf_V) (s0 s1 s2 : sf_V) (M : sf_M) (sc : Option (List Int)) (Q : Option sf_V → sf_M → Prop) : sf_wp d sc 165 846 [l0, l1, l2, some (.inl x)] [s0, s1, s2] M Q = sf_wp d sc 165 847 [l0, l1, l2, some (.inl x)] [.inl x, s0, s1, s2] M Q := sf_q rfl rfl
set_option maxRecDepth 100000 in
theorem q165_847 (d : Nat) (l0 l1 l2 l3 : Option sf_V) (s0 s1 s2 s3 : sf_V) (M : sf_M) (sc : Option (List Int)) (Q : Option sf_V → sf_M → Prop) : sf_wp d sc 165 847 [l0, l1, l2, l3] [s0, s1, s2, s3] M Q = sf_wp d sc 165 848 [l0, l1, l2, l3] [.inl 1, s0, s1, s2, s3] M Q := sf_q rfl rfl
set_option maxRecDepth 100000 in
theorem q165_848 (d : Nat) (z : Int) (x : Int) (l0 l1 l2 l3 : Option sf_V) (s2 s3 s4 : sf_V) (M : sf_M) (sc : Option (List Int)) (Q : Option sf_V → sf_M → Prop) : sf_wp d sc 165 848 [l0, l1, l2, l3] [.inl z, .inl x, s2, s3, s4] M Q = sf_wp d sc 165 849 [l0, l1, l2, l3] [.inl (sf_w (x + z)), s2, s3, s4] M Q := sf_q rfl rfl
set_option maxRecDepth 100000 in
theorem q165_849 (d : Nat) (x : Int) (l0 l1 l2 l3 : Option sf_V) (s2 s3 : sf_V) (M : sf_M) (xs : List Int) (Q : Option sf_V → sf_M → Prop) : sf_wp d (some xs) 165 849 [l0, l1, l2, l3] [.inl x, .inr (.inr (.inr ())), s2, s3] M Q = ((0 ≤ x ∧ x < xs.length) ∧ sf_wp d (some xs) 165 850 [l0, l1, l2, l3] [.inl (xs.getD x.toNat 0), s2, s3] M Q) := sf_qS_ld rfl
set_option maxRecDepth 100000 in
theorem q165_850 (d : Nat) (l1 l2 l3 : Option sf_V) (s0 s1 s2 : sf_V) (M : sf_M) (sc : Option (List Int)) (Q : Option sf_V → sf_M → Prop) : sf_wp d sc 165 850 [some (.inr (.inr (.inr ()))), l1, l2, l3] [s0, s1, s2] M Q = sf_wp d sc 165 851 [some (.inr (.inr (.inr ()))), l1, l2, l3] [.inr (.inr (.inr ())), s0, s1, s2] M Q := sf_q rfl rfl
set_option maxRecDepth 100000 in
theorem q165_851 (d : Nat) (x : Int) (l0 l1 l2 : Option sf_V) (s0 s1 s2 s3 : sf_V) (M : sf_M) (sc : Option (List Int)) (Q : Option sf_V → sf_M → Prop) : sf_wp d sc 165 851 [l0, l1, l2, some (.inl x)] [s0, s1, s2, s3] M Q = sf_wp d sc 165 852 [l0, l1, l2, some (.inl x)] [.inl x, s0, s1, s2, s3] M Q := sf_q rfl rfl
set_option maxRecDepth 100000 in
theorem q165_852 (d : Nat) (l0 l1 l2 l3 : Option sf_V) (s0 s1 s2 s3 s4 : sf_V) (M : sf_M) (sc : Option (List Int)) (Q : Option sf_V → sf_M → Prop) : sf_wp d sc 165 852 [l0, l1, l2, l3] [s0, s1, s2, s3, s4] M Q = sf_wp d sc 165 853 [l0, l1, l2, l3] [.inl 2, s0, s1, s2, s3, s4] M Q := sf_q rfl rfl
set_option maxRecDepth 100000 in
theorem q165_853 (d : Nat) (z : Int) (x : Int) (l0 l1 l2 l3 : Option sf_V) (s2 s3 s4 s5 : sf_V) (M : sf_M) (sc : Option (List Int)) (Q : Option sf_V → sf_M → Prop) : sf_wp d sc 165 853 [l0, l1, l2, l3] [.inl z, .inl x, s2, s3, s4, s5] M Q = sf_wp d sc 165 854 [l0, l1, l2, l3] [.inl (sf_w (x + z)), s2, s3, s4, s5] M Q := sf_q rfl rfl
set_option maxRecDepth 100000 in
theorem q165_854 (d : Nat) (x : Int) (l0 l1 l2 l3 : Option sf_V) (s2 s3 s4 : sf_V) (M : sf_M) (xs : List Int) (Q : Option sf_V → sf_M → Prop) : sf_wp d (some xs) 165 854 [l0, l1, l2, l3] [.inl x, .inr (.inr (.inr ())), s2, s3, s4] M Q = ((0 ≤ x ∧ x < xs.length) ∧ sf_wp d (some xs) 165 855 [l0, l1, l2, l3] [.inl (xs.getD x.toNat 0), s2, s3, s4] M Q) := sf_qS_ld rfl
set_option maxRecDepth 100000 in
theorem q165_855 (d : Nat) (a2 : Int) (a1 : Int) (a0 : Nat) (l0 l1 l2 l3 : Option sf_V) (s3 : sf_V) (V : sf_MV) (sc : Option (List Int)) (Q : Option sf_V → sf_M → Prop) (h : sf_cls a0 = 12) : sf_wp (d + 1) sc 165 855 [l0, l1, l2, l3] [.inl a2, .inl a1, .inr (.inl (some a0)), s3] (sf_E V) Q = sf_wp d none 158 0 [some (.inr (.inl (some a0))), some (.inl a1), some (.inl a2)] [] (sf_E V) (fun r M1 => sf_wp (d + 1) sc 165 858 [l0, l1, l2, l3] (r.toList ++ [s3]) M1 Q) := sf_qV h rfl (by decide) ⟨⟨Nat.le_of_ble_eq_true rfl, Nat.le_of_ble_eq_true rfl, Nat.le_of_ble_eq_true rfl⟩, rfl⟩ rfl rfl rfl
set_option maxRecDepth 100000 in
theorem q165_858 (d : Nat) (z : Int) (x : Int) (l0 l1 l2 l3 : Option sf_V) (M : sf_M) (sc : Option (List Int)) (Q : Option sf_V → sf_M → Prop) : sf_wp d sc 165 858 [l0, l1, l2, l3] [.inl z, .inl x] M Q = if x = z then sf_wp d sc 165 968 [l0, l1, l2, l3] [] M Q else sf_wp d sc 165 861 [l0, l1, l2, l3] [] M Q := sf_qic_eq rfl
set_option maxRecDepth 100000 in
theorem q165_861 (d : Nat) (l0 l1 l2 l3 : Option sf_V) (M : sf_M) (sc : Option (List Int)) (Q : Option sf_V → sf_M → Prop) : sf_wp d sc 165 861 [l0, l1, l2, l3] [] M Q = sf_wp d sc 165 862 [l0, l1, l2, l3] [.inl 0] M Q := sf_q rfl rfl
set_option maxRecDepth 100000 in
theorem q165_862 (d : Nat) (x : Int) (l0 l1 l2 l3 : Option sf_V) (M : sf_M) (sc : Option (List Int)) (Q : Option sf_V → sf_M → Prop) : sf_wp d sc 165 862 [l0, l1, l2, l3] [.inl x] M Q = ((x = 0 ∨ x = 1) ∧ Q (some (.inl x)) M) := sf_qRz rfl
set_option maxRecDepth 100000 in
theorem q165_863 (d : Nat) (x : Nat) (l0 l2 l3 : Option sf_V) (M : sf_M) (sc : Option (List Int)) (Q : Option sf_V → sf_M → Prop) : sf_wp d sc 165 863 [l0, some (.inr (.inl (some x))), l2, l3] [] M Q = sf_wp d sc 165 864 [l0, some (.inr (.inl (some x))), l2, l3] [.inr (.inl (some x))] M Q := sf_q rfl rfl
set_option maxRecDepth 100000 in
theorem q165_864 (d : Nat) (l1 l2 l3 : Option sf_V) (s0 : sf_V) (M : sf_M) (sc : Option (List Int)) (Q : Option sf_V → sf_M → Prop) : sf_wp d sc 165 864 [some (.inr (.inr (.inr ()))), l1, l2, l3] [s0] M Q = sf_wp d sc 165 865 [some (.inr (.inr (.inr ()))), l1, l2, l3] [.inr (.inr (.inr ())), s0] M Q := sf_q rfl rfl
set_option maxRecDepth 100000 in
theorem q165_865 (d : Nat) (x : Int) (l0 l1 l2 : Option sf_V) (s0 s1 : sf_V) (M : sf_M) (sc : Option (List Int)) (Q : Option sf_V → sf_M → Prop) : sf_wp d sc 165 865 [l0, l1, l2, some (.inl x)] [s0, s1] M Q = sf_wp d sc 165 866 [l0, l1, l2, some (.inl x)] [.inl x, s0, s1] M Q := sf_q rfl rfl
set_option maxRecDepth 100000 in
theorem q165_866 (d : Nat) (l0 l1 l2 l3 : Option sf_V) (s0 s1 s2 : sf_V) (M : sf_M) (sc : Option (List Int)) (Q : Option sf_V → sf_M → Prop) : sf_wp d sc 165 866 [l0, l1, l2, l3] [s0, s1, s2] M Q = sf_wp d sc 165 867 [l0, l1, l2, l3] [.inl 1, s0, s1, s2] M Q := sf_q rfl rfl
set_option maxRecDepth 100000 in
theorem q165_867 (d : Nat) (z : Int) (x : Int) (l0 l1 l2 l3 : Option sf_V) (s2 s3 : sf_V) (M : sf_M) (sc : Option (List Int)) (Q : Option sf_V → sf_M → Prop) : sf_wp d sc 165 867 [l0, l1, l2, l3] [.inl z, .inl x, s2, s3] M Q = sf_wp d sc 165 868 [l0, l1, l2, l3] [.inl (sf_w (x + z)), s2, s3] M Q := sf_q rfl rfl
set_option maxRecDepth 100000 in
theorem q165_868 (d : Nat) (x : Int) (l0 l1 l2 l3 : Option sf_V) (s2 : sf_V) (M : sf_M) (xs : List Int) (Q : Option sf_V → sf_M → Prop) : sf_wp d (some xs) 165 868 [l0, l1, l2, l3] [.inl x, .inr (.inr (.inr ())), s2] M Q = ((0 ≤ x ∧ x < xs.length) ∧ sf_wp d (some xs) 165 869 [l0, l1, l2, l3] [.inl (xs.getD x.toNat 0), s2] M Q) := sf_qS_ld rfl
set_option maxRecDepth 100000 in
theorem q165_869 (d : Nat) (a1 : Int) (a0 : Nat) (l0 l1 l2 l3 : Option sf_V) (V : sf_MV) (sc : Option (List Int)) (Q : Option sf_V → sf_M → Prop) (h : sf_cls a0 = 11) : sf_wp (d + 1) sc 165 869 [l0, l1, l2, l3] [.inl a1, .inr (.inl (some a0))] (sf_E V) Q = sf_wp d none 85 0 [some (.inr (.inl (some a0))), some (.inl a1), none] [] (sf_E V) (fun r M1 => sf_wp (d + 1) sc 165 872 [l0, l1, l2, l3] (r.toList ++ []) M1 Q) := sf_qV h rfl (by decide) ⟨⟨Nat.le_of_ble_eq_true rfl, Nat.le_of_ble_eq_true rfl, Nat.le_of_ble_eq_true rfl⟩, rfl⟩ rfl rfl rfl
set_option maxRecDepth 100000 in
theorem q165_872 (d : Nat) (x : Nat) (l0 l1 l3 : Option sf_V) (s0 : sf_V) (M : sf_M) (sc : Option (List Int)) (Q : Option sf_V → sf_M → Prop) : sf_wp d sc 165 872 [l0, l1, some (.inr (.inl (some x))), l3] [s0] M Q = sf_wp d sc 165 873 [l0, l1, some (.inr (.inl (some x))), l3] [.inr (.inl (some x)), s0] M Q := sf_q rfl rfl
set_option maxRecDepth 100000 in
theorem q165_873 (d : Nat) (l1 l2 l3 : Option sf_V) (s0 s1 : sf_V) (M : sf_M) (sc : Option (List Int)) (Q : Option sf_V → sf_M → Prop) : sf_wp d sc 165 873 [some (.inr (.inr (.inr ()))), l1, l2, l3] [s0, s1] M Q = sf_wp d sc 165 874 [some (.inr (.inr (.inr ()))), l1, l2, l3] [.inr (.inr (.inr ())), s0, s1] M Q := sf_q rfl rfl
set_option maxRecDepth 100000 in
theorem q165_874 (d : Nat) (x : Int) (l0 l1 l2 : Option sf_V) (s0 s1 s2 : sf_V) (M : sf_M) (sc : Option (List Int)) (Q : Option sf_V → sf_M → Prop) : sf_wp d sc 165 874 [l0, l1, l2, some (.inl x)] [s0, s1, s2] M Q = sf_wp d sc 165 875 [l0, l1, l2, some (.inl x)] [.inl x, s0, s1, s2] M Q := sf_q rfl rfl
set_option maxRecDepth 100000 in
theorem q165_875 (d : Nat) (l0 l1 l2 l3 : Option sf_V) (s0 s1 s2 s3 : sf_V) (M : sf_M) (sc : Option (List Int)) (Q : Option sf_V → sf_M → Prop) : sf_wp d sc 165 875 [l0, l1, l2, l3] [s0, s1, s2, s3] M Q = sf_wp d sc 165 876 [l0, l1, l2, l3] [.inl 1, s0, s1, s2, s3] M Q := sf_q rfl rfl
set_option maxRecDepth 100000 in
theorem q165_876 (d : Nat) (z : Int) (x : Int) (l0 l1 l2 l3 : Option sf_V) (s2 s3 s4 : sf_V) (M : sf_M) (sc : Option (List Int)) (Q : Option sf_V → sf_M → Prop) : sf_wp d sc 165 876 [l0, l1, l2, l3] [.inl z, .inl x, s2, s3, s4] M Q = sf_wp d sc 165 877 [l0, l1, l2, l3] [.inl (sf_w (x + z)), s2, s3, s4] M Q := sf_q rfl rfl
set_option maxRecDepth 100000 in
theorem q165_877 (d : Nat) (x : Int) (l0 l1 l2 l3 : Option sf_V) (s2 s3 : sf_V) (M : sf_M) (xs : List Int) (Q : Option sf_V → sf_M → Prop) : sf_wp d (some xs) 165 877 [l0, l1, l2, l3] [.inl x, .inr (.inr (.inr ())), s2, s3] M Q = ((0 ≤ x ∧ x < xs.length) ∧ sf_wp d (some xs) 165 878 [l0, l1, l2, l3] [.inl (xs.getD x.toNat 0), s2, s3] M Q) := sf_qS_ld rfl
set_option maxRecDepth 100000 in
theorem q165_878 (d : Nat) (a1 : Int) (a0 : Nat) (l0 l1 l2 l3 : Option sf_V) (s2 : sf_V) (V : sf_MV) (sc : Option (List Int)) (Q : Option sf_V → sf_M → Prop) (h : sf_cls a0 = 12) : sf_wp (d + 1) sc 165 878 [l0, l1, l2, l3] [.inl a1, .inr (.inl (some a0)), s2] (sf_E V) Q = sf_wp d none 159 0 [some (.inr (.inl (some a0))), some (.inl a1), none, none] [] (sf_E V) (fun r M1 => sf_wp (d + 1) sc 165 881 [l0, l1, l2, l3] (r.toList ++ [s2]) M1 Q) := sf_qV h rfl (by decide) ⟨⟨Nat.le_of_ble_eq_true rfl, Nat.le_of_ble_eq_true rfl, Nat.le_of_ble_eq_true rfl⟩, rfl⟩ rfl rfl rfl
set_option maxRecDepth 100000 in
theorem q165_881 (d : Nat) (z : Int) (x : Int) (l0 l1 l2 l3 : Option sf_V) (M : sf_M) (sc : Option (List Int)) (Q : Option sf_V → sf_M → Prop) : sf_wp d sc 165 881 [l0, l1, l2, l3] [.inl z, .inl x] M Q = if x = z then sf_wp d sc 165 968 [l0, l1, l2, l3] [] M Q else sf_wp d sc 165 884 [l0, l1, l2, l3] [] M Q := sf_qic_eq rfl
set_option maxRecDepth 100000 in
theorem q165_884 (d : Nat) (l0 l1 l2 l3 : Option sf_V) (M : sf_M) (sc : Option (List Int)) (Q : Option sf_V → sf_M → Prop) : sf_wp d sc 165 884 [l0, l1, l2, l3] [] M Q = sf_wp d sc 165 885 [l0, l1, l2, l3] [.inl 0] M Q := sf_q rfl rfl
set_option maxRecDepth 100000 in
theorem q165_885 (d : Nat) (x : Int) (l0 l1 l2 l3 : Option sf_V) (M : sf_M) (sc : Option (List Int)) (Q : Option sf_V → sf_M → Prop) : sf_wp d sc 165 885 [l0, l1, l2, l3] [.inl x] M Q = ((x = 0 ∨ x = 1) ∧ Q (some (.inl x)) M) := sf_qRz rfl
set_option maxRecDepth 100000 in
theorem q165_886 (d : Nat) (x : Nat) (l0 l2 l3 : Option sf_V) (M : sf_M) (sc : Option (List Int)) (Q : Option sf_V → sf_M → Prop) : sf_wp d sc 165 886 [l0, some (.inr (.inl (some x))), l2, l3] [] M Q = sf_wp d sc 165 887 [l0, some (.inr (.inl (some x))), l2, l3] [.inr (.inl (some x))] M Q := sf_q rfl rfl
set_option maxRecDepth 100000 in
theorem q165_887 (d : Nat) (a0 : Nat) (l0 l1 l2 l3 : Option sf_V) (V : sf_MV) (sc : Option (List Int)) (Q : Option sf_V → sf_M → Prop) (h : sf_cls a0 = 11) : sf_wp (d + 1) sc 165 887 [l0, l1, l2, l3] [.inr (.inl (some a0))] (sf_E V) Q = sf_wp d none 86 0 [some (.inr (.inl (some a0))), none] [] (sf_E V) (fun r M1 => sf_wp (d + 1) sc 165 890 [l0, l1, l2, l3] (r.toList ++ []) M1 Q) := sf_qV h rfl (by decide) ⟨⟨Nat.le_of_ble_eq_true rfl, Nat.le_of_ble_eq_true rfl, Nat.le_of_ble_eq_true rfl⟩, rfl⟩ rfl rfl rfl
set_option maxRecDepth 100000 in
theorem q165_890 (d : Nat) (x : Nat) (l0 l1 l3 : Option sf_V) (s0 : sf_V) (M : sf_M) (sc : Option (List Int)) (Q : Option sf_V → sf_M → Prop) : sf_wp d sc 165 890 [l0, l1, some (.inr (.inl (some x))), l3] [s0] M Q = sf_wp d sc 165 891 [l0, l1, some (.inr (.inl (some x))), l3] [.inr (.inl (some x)), s0] M Q := sf_q rfl rfl
set_option maxRecDepth 100000 in
theorem q165_891 (d : Nat) (a0 : Nat) (l0 l1 l2 l3 : Option sf_V) (s1 : sf_V) (V : sf_MV) (sc : Option (List Int)) (Q : Option sf_V → sf_M → Prop) (h : sf_cls a0 = 12) : sf_wp (d + 1) sc 165 891 [l0, l1, l2, l3] [.inr (.inl (some a0)), s1] (sf_E V) Q = sf_wp d none 160 0 [some (.inr (.inl (some a0))), none] [] (sf_E V) (fun r M1 => sf_wp (d + 1) sc 165 894 [l0, l1, l2, l3] (r.toList ++ [s1]) M1 Q) := sf_qV h rfl (by decide) ⟨⟨Nat.le_of_ble_eq_true rfl, Nat.le_of_ble_eq_true rfl, Nat.le_of_ble_eq_true rfl⟩, rfl⟩ rfl rfl rfl
set_option maxRecDepth 100000 in
theorem q165_894 (d : Nat) (z : Int) (x : Int) (l0 l1 l2 l3 : Option sf_V) (M : sf_M) (sc : Option (List Int)) (Q : Option sf_V → sf_M → Prop) : sf_wp d sc 165 894 [l0, l1, l2, l3] [.inl z, .inl x] M Q = if x = z then sf_wp d sc 165 968 [l0, l1, l2, l3] [] M Q else sf_wp d sc 165 897 [l0, l1, l2, l3] [] M Q := sf_qic_eq rfl
set_option maxRecDepth 100000 in
theorem q165_897 (d : Nat) (l0 l1 l2 l3 : Option sf_V) (M : sf_M) (sc : Option (List Int)) (Q : Option sf_V → sf_M → Prop) : sf_wp d sc 165 897 [l0, l1, l2, l3] [] M Q = sf_wp d sc 165 898 [l0, l1, l2, l3] [.inl 0] M Q := sf_q rfl rfl
set_option maxRecDepth 100000 in
theorem q165_898 (d : Nat) (x : Int) (l0 l1 l2 l3 : Option sf_V) (M : sf_M) (sc : Option (List Int)) (Q : Option sf_V → sf_M → Prop) : sf_wp d sc 165 898 [l0, l1, l2, l3] [.inl x] M Q = ((x = 0 ∨ x = 1) ∧ Q (some (.inl x)) M) := sf_qRz rfl
set_option maxRecDepth 100000 in
theorem q165_899 (d : Nat) (x : Nat) (l0 l2 l3 : Option sf_V) (M : sf_M) (sc : Option (List Int)) (Q : Option sf_V → sf_M → Prop) : sf_wp d sc 165 899 [l0, some (.inr (.inl (some x))), l2, l3] [] M Q = sf_wp d sc 165 900 [l0, some (.inr (.inl (some x))), l2, l3] [.inr (.inl (some x))] M Q := sf_q rfl rfl
set_option maxRecDepth 100000 in
theorem q165_900 (d : Nat) (l1 l2 l3 : Option sf_V) (s0 : sf_V) (M : sf_M) (sc : Option (List Int)) (Q : Option sf_V → sf_M → Prop) : sf_wp d sc 165 900 [some (.inr (.inr (.inr ()))), l1, l2, l3] [s0] M Q = sf_wp d sc 165 901 [some (.inr (.inr (.inr ()))), l1, l2, l3] [.inr (.inr (.inr ())), s0] M Q := sf_q rfl rfl
set_option maxRecDepth 100000 in
theorem q165_901 (d : Nat) (x : Int) (l0 l1 l2 : Option sf_V) (s0 s1 : sf_V) (M : sf_M) (sc : Option (List Int)) (Q : Option sf_V → sf_M → Prop) : sf_wp d sc 165 901 [l0, l1, l2, some (.inl x)] [s0, s1] M Q = sf_wp d sc 165 902 [l0, l1, l2, some (.inl x)] [.inl x, s0, s1] M Q := sf_q rfl rfl
set_option maxRecDepth 100000 in
theorem q165_902 (d : Nat) (l0 l1 l2 l3 : Option sf_V) (s0 s1 s2 : sf_V) (M : sf_M) (sc : Option (List Int)) (Q : Option sf_V → sf_M → Prop) : sf_wp d sc 165 902 [l0, l1, l2, l3] [s0, s1, s2] M Q = sf_wp d sc 165 903 [l0, l1, l2, l3] [.inl 1, s0, s1, s2] M Q := sf_q rfl rfl
set_option maxRecDepth 100000 in
theorem q165_903 (d : Nat) (z : Int) (x : Int) (l0 l1 l2 l3 : Option sf_V) (s2 s3 : sf_V) (M : sf_M) (sc : Option (List Int)) (Q : Option sf_V → sf_M → Prop) : sf_wp d sc 165 903 [l0, l1, l2, l3] [.inl z, .inl x, s2, s3] M Q = sf_wp d sc 165 904 [l0, l1, l2, l3] [.inl (sf_w (x + z)), s2, s3] M Q := sf_q rfl rfl
set_option maxRecDepth 100000 in
theorem q165_904 (d : Nat) (x : Int) (l0 l1 l2 l3 : Option sf_V) (s2 : sf_V) (M : sf_M) (xs : List Int) (Q : Option sf_V → sf_M → Prop) : sf_wp d (some xs) 165 904 [l0, l1, l2, l3] [.inl x, .inr (.inr (.inr ())), s2] M Q = ((0 ≤ x ∧ x < xs.length) ∧ sf_wp d (some xs) 165 905 [l0, l1, l2, l3] [.inl (xs.getD x.toNat 0), s2] M Q) := sf_qS_ld rfl
set_option maxRecDepth 100000 in
theorem q165_905 (d : Nat) (a1 : Int) (a0 : Nat) (l0 l1 l2 l3 : Option sf_V) (V : sf_MV) (sc : Option (List Int)) (Q : Option sf_V → sf_M → Prop) (h : sf_cls a0 = 11) : sf_wp (d + 1) sc 165 905 [l0, l1, l2, l3] [.inl a1, .inr (.inl (some a0))] (sf_E V) Q = sf_wp d none 87 0 [some (.inr (.inl (some a0))), some (.inl a1), none] [] (sf_E V) (fun r M1 => sf_wp (d + 1) sc 165 908 [l0, l1, l2, l3] (r.toList ++ []) M1 Q) := sf_qV h rfl (by decide) ⟨⟨Nat.le_of_ble_eq_true rfl, Nat.le_of_ble_eq_true rfl, Nat.le_of_ble_eq_true rfl⟩, rfl⟩ rfl rfl rfl
set_option maxRecDepth 100000 in
theorem q165_908 (d : Nat) (x : Nat) (l0 l1 l3 : Option sf_V) (s0 : sf_V) (M : sf_M) (sc : Option (List Int)) (Q : Option sf_V → sf_M → Prop) : sf_wp d sc 165 908 [l0, l1, some (.inr (.inl (some x))), l3] [s0] M Q = sf_wp d sc 165 909 [l0, l1, some (.inr (.inl (some x))), l3] [.inr (.inl (some x)), s0] M Q := sf_q rfl rfl
set_option maxRecDepth 100000 in
theorem q165_909 (d : Nat) (l1 l2 l3 : Option sf_V) (s0 s1 : sf_V) (M : sf_M) (sc : Option (List Int)) (Q : Option sf_V → sf_M → Prop) : sf_wp d sc 165 909 [some (.inr (.inr (.inr ()))), l1, l2, l3] [s0, s1] M Q = sf_wp d sc 165 910 [some (.inr (.inr (.inr ()))), l1, l2, l3] [.inr (.inr (.inr ())), s0, s1] M Q := sf_q rfl rfl
set_option maxRecDepth 100000 in
theorem q165_910 (d : Nat) (x : Int) (l0 l1 l2 : Option sf_V) (s0 s1 s2 : sf_V) (M : sf_M) (sc : Option (List Int)) (Q : Option sf_V → sf_M → Prop) : sf_wp d sc 165 910 [l0, l1, l2, some (.inl x)] [s0, s1, s2] M Q = sf_wp d sc 165 911 [l0, l1, l2, some (.inl x)] [.inl x, s0, s1, s2] M Q := sf_q rfl rfl
set_option maxRecDepth 100000 in
theorem q165_911 (d : Nat) (l0 l1 l2 l3 : Option sf_V) (s0 s1 s2 s3 : sf_V) (M : sf_M) (sc : Option (List Int)) (Q : Option sf_V → sf_M → Prop) : sf_wp d sc 165 911 [l0, l1, l2, l3] [s0, s1, s2, s3] M Q = sf_wp d sc 165 912 [l0, l1, l2, l3] [.inl 1, s0, s1, s2, s3] M Q := sf_q rfl rfl
set_option maxRecDepth 100000 in
theorem q165_912 (d : Nat) (z : Int) (x : Int) (l0 l1 l2 l3 : Option sf_V) (s2 s3 s4 : sf_V) (M : sf_M) (sc : Option (List Int)) (Q : Option sf_V → sf_M → Prop) : sf_wp d sc 165 912 [l0, l1, l2, l3] [.inl z, .inl x, s2, s3, s4] M Q = sf_wp d sc 165 913 [l0, l1, l2, l3] [.inl (sf_w (x + z)), s2, s3, s4] M Q := sf_q rfl rfl
set_option maxRecDepth 100000 in
theorem q165_913 (d : Nat) (x : Int) (l0 l1 l2 l3 : Option sf_V) (s2 s3 : sf_V) (M : sf_M) (xs : List Int) (Q : Option sf_V → sf_M → Prop) : sf_wp d (some xs) 165 913 [l0, l1, l2, l3] [.inl x, .inr (.inr (.inr ())), s2, s3] M Q = ((0 ≤ x ∧ x < xs.length) ∧ sf_wp d (some xs) 165 914 [l0, l1, l2, l3] [.inl (xs.getD x.toNat 0), s2, s3] M Q) := sf_qS_ld rfl
set_option maxRecDepth 100000 in
theorem q165_914 (d : Nat) (a1 : Int) (a0 : Nat) (l0 l1 l2 l3 : Option sf_V) (s2 : sf_V) (V : sf_MV) (sc : Option (List Int)) (Q : Option sf_V → sf_M → Prop) (h : sf_cls a0 = 12) : sf_wp (d + 1) sc 165 914 [l0, l1, l2, l3] [.inl a1, .inr (.inl (some a0)), s2] (sf_E V) Q = sf_wp d none 161 0 [some (.inr (.inl (some a0))), some (.inl a1), none] [] (sf_E V) (fun r M1 => sf_wp (d + 1) sc 165 917 [l0, l1, l2, l3] (r.toList ++ [s2]) M1 Q) := sf_qV h rfl (by decide) ⟨⟨Nat.le_of_ble_eq_true rfl, Nat.le_of_ble_eq_true rfl, Nat.le_of_ble_eq_true rfl⟩, rfl⟩ rfl rfl rfl
set_option maxRecDepth 100000 in
theorem q165_917 (d : Nat) (z : Int) (x : Int) (l0 l1 l2 l3 : Option sf_V) (M : sf_M) (sc : Option (List Int)) (Q : Option sf_V → sf_M → Prop) : sf_wp d sc 165 917 [l0, l1, l2, l3] [.inl z, .inl x] M Q = if x = z then sf_wp d sc 165 968 [l0, l1, l2, l3] [] M Q else sf_wp d sc 165 920 [l0, l1, l2, l3] [] M Q := sf_qic_eq rfl
set_option maxRecDepth 100000 in
theorem q165_920 (d : Nat) (l0 l1 l2 l3 : Option sf_V) (M : sf_M) (sc : Option (List Int)) (Q : Option sf_V → sf_M → Prop) : sf_wp d sc 165 920 [l0, l1, l2, l3] [] M Q = sf_wp d sc 165 921 [l0, l1, l2, l3] [.inl 0] M Q := sf_q rfl rfl
set_option maxRecDepth 100000 in
theorem q165_921 (d : Nat) (x : Int) (l0 l1 l2 l3 : Option sf_V) (M : sf_M) (sc : Option (List Int)) (Q : Option sf_V → sf_M → Prop) : sf_wp d sc 165 921 [l0, l1, l2, l3] [.inl x] M Q = ((x = 0 ∨ x = 1) ∧ Q (some (.inl x)) M) := sf_qRz rfl
set_option maxRecDepth 100000 in
theorem q165_922 (d : Nat) (x : Nat) (l0 l2 l3 : Option sf_V) (M : sf_M) (sc : Option (List Int)) (Q : Option sf_V → sf_M → Prop) : sf_wp d sc 165 922 [l0, some (.inr (.inl (some x))), l2, l3] [] M Q = sf_wp d sc 165 923 [l0, some (.inr (.inl (some x))), l2, l3] [.inr (.inl (some x))] M Q := sf_q rfl rfl
set_option maxRecDepth 100000 in
theorem q165_923 (d : Nat) (l1 l2 l3 : Option sf_V) (s0 : sf_V) (M : sf_M) (sc : Option (List Int)) (Q : Option sf_V → sf_M → Prop) : sf_wp d sc 165 923 [some (.inr (.inr (.inr ()))), l1, l2, l3] [s0] M Q = sf_wp d sc 165 924 [some (.inr (.inr (.inr ()))), l1, l2, l3] [.inr (.inr (.inr ())), s0] M Q := sf_q rfl rfl
set_option maxRecDepth 100000 in
theorem q165_924 (d : Nat) (x : Int) (l0 l1 l2 : Option sf_V) (s0 s1 : sf_V) (M : sf_M) (sc : Option (List Int)) (Q : Option sf_V → sf_M → Prop) : sf_wp d sc 165 924 [l0, l1, l2, some (.inl x)] [s0, s1] M Q = sf_wp d sc 165 925 [l0, l1, l2, some (.inl x)] [.inl x, s0, s1] M Q := sf_q rfl rfl
set_option maxRecDepth 100000 in
theorem q165_925 (d : Nat) (l0 l1 l2 l3 : Option sf_V) (s0 s1 s2 : sf_V) (M : sf_M) (sc : Option (List Int)) (Q : Option sf_V → sf_M → Prop) : sf_wp d sc 165 925 [l0, l1, l2, l3] [s0, s1, s2] M Q = sf_wp d sc 165 926 [l0, l1, l2, l3] [.inl 1, s0, s1, s2] M Q := sf_q rfl rfl
set_option maxRecDepth 100000 in
theorem q165_926 (d : Nat) (z : Int) (x : Int) (l0 l1 l2 l3 : Option sf_V) (s2 s3 : sf_V) (M : sf_M) (sc : Option (List Int)) (Q : Option sf_V → sf_M → Prop) : sf_wp d sc 165 926 [l0, l1, l2, l3] [.inl z, .inl x, s2, s3] M Q = sf_wp d sc 165 927 [l0, l1, l2, l3] [.inl (sf_w (x + z)), s2, s3] M Q := sf_q rfl rfl
set_option maxRecDepth 100000 in
theorem q165_927 (d : Nat) (x : Int) (l0 l1 l2 l3 : Option sf_V) (s2 : sf_V) (M : sf_M) (xs : List Int) (Q : Option sf_V → sf_M → Prop) : sf_wp d (some xs) 165 927 [l0, l1, l2, l3] [.inl x, .inr (.inr (.inr ())), s2] M Q = ((0 ≤ x ∧ x < xs.length) ∧ sf_wp d (some xs) 165 928 [l0, l1, l2, l3] [.inl (xs.getD x.toNat 0), s2] M Q) := sf_qS_ld rfl
set_option maxRecDepth 100000 in
theorem q165_928 (d : Nat) (a1 : Int) (a0 : Nat) (l0 l1 l2 l3 : Option sf_V) (V : sf_MV) (sc : Option (List Int)) (Q : Option sf_V → sf_M → Prop) (h : sf_cls a0 = 11) : sf_wp (d + 1) sc 165 928 [l0, l1, l2, l3] [.inl a1, .inr (.inl (some a0))] (sf_E V) Q = sf_wp d none 88 0 [some (.inr (.inl (some a0))), some (.inl a1)] [] (sf_E V) (fun r M1 => sf_wp (d + 1) sc 165 931 [l0, l1, l2, l3] (r.toList ++ []) M1 Q) := sf_qV h rfl (by decide) ⟨⟨Nat.le_of_ble_eq_true rfl, Nat.le_of_ble_eq_true rfl, Nat.le_of_ble_eq_true rfl⟩, rfl⟩ rfl rfl rfl
set_option maxRecDepth 100000 in
theorem q165_931 (d : Nat) (x : Nat) (l0 l1 l3 : Option sf_V) (s0 : sf_V) (M : sf_M) (sc : Option (List Int)) (Q : Option sf_V → sf_M → Prop) : sf_wp d sc 165 931 [l0, l1, some (.inr (.inl (some x))), l3] [s0] M Q = sf_wp d sc 165 932 [l0, l1, some (.inr (.inl (some x))), l3] [.inr (.inl (some x)), s0] M Q := sf_q rfl rfl
set_option maxRecDepth 100000 in
theorem q165_932 (d : Nat) (l1 l2 l3 : Option sf_V) (s0 s1 : sf_V) (M : sf_M) (sc : Option (List Int)) (Q : Option sf_V → sf_M → Prop) : sf_wp d sc 165 932 [some (.inr (.inr (.inr ()))), l1, l2, l3] [s0, s1] M Q = sf_wp d sc 165 933 [some (.inr (.inr (.inr ()))), l1, l2, l3] [.inr (.inr (.inr ())), s0, s1] M Q := sf_q rfl rfl
set_option maxRecDepth 100000 in
theorem q165_933 (d : Nat) (x : Int) (l0 l1 l2 : Option sf_V) (s0 s1 s2 : sf_V) (M : sf_M) (sc : Option (List Int)) (Q : Option sf_V → sf_M → Prop) : sf_wp d sc 165 933 [l0, l1, l2, some (.inl x)] [s0, s1, s2] M Q = sf_wp d sc 165 934 [l0, l1, l2, some (.inl x)] [.inl x, s0, s1, s2] M Q := sf_q rfl rfl
set_option maxRecDepth 100000 in
theorem q165_934 (d : Nat) (l0 l1 l2 l3 : Option sf_V) (s0 s1 s2 s3 : sf_V) (M : sf_M) (sc : Option (List Int)) (Q : Option sf_V → sf_M → Prop) : sf_wp d sc 165 934 [l0, l1, l2, l3] [s0, s1, s2, s3] M Q = sf_wp d sc 165 935 [l0, l1, l2, l3] [.inl 1, s0, s1, s2, s3] M Q := sf_q rfl rfl
set_option maxRecDepth 100000 in
theorem q165_935 (d : Nat) (z : Int) (x : Int) (l0 l1 l2 l3 : Option sf_V) (s2 s3 s4 : sf_V) (M : sf_M) (sc : Option (List Int)) (Q : Option sf_V → sf_M → Prop) : sf_wp d sc 165 935 [l0, l1, l2, l3] [.inl z, .inl x, s2, s3, s4] M Q = sf_wp d sc 165 936 [l0, l1, l2, l3] [.inl (sf_w (x + z)), s2, s3, s4] M Q := sf_q rfl rfl
set_option maxRecDepth 100000 in
theorem q165_936 (d : Nat) (x : Int) (l0 l1 l2 l3 : Option sf_V) (s2 s3 : sf_V) (M : sf_M) (xs : List Int) (Q : Option sf_V → sf_M → Prop) : sf_wp d (some xs) 165 936 [l0, l1, l2, l3] [.inl x, .inr (.inr (.inr ())), s2, s3] M Q = ((0 ≤ x ∧ x < xs.length) ∧ sf_wp d (some xs) 165 937 [l0, l1, l2, l3] [.inl (xs.getD x.toNat 0), s2, s3] M Q) := sf_qS_ld rfl
set_option maxRecDepth 100000 in
theorem q165_937 (d : Nat) (a1 : Int) (a0 : Nat) (l0 l1 l2 l3 : Option sf_V) (s2 : sf_V) (V : sf_MV) (sc : Option (List Int)) (Q : Option sf_V → sf_M → Prop) (h : sf_cls a0 = 12) : sf_wp (d + 1) sc 165 937 [l0, l1, l2, l3] [.inl a1, .inr (.inl (some a0)), s2] (sf_E V) Q = sf_wp d none 162 0 [some (.inr (.inl (some a0))), some (.inl a1), none] [] (sf_E V) (fun r M1 => sf_wp (d + 1) sc 165 940 [l0, l1, l2, l3] (r.toList ++ [s2]) M1 Q) := sf_qV h rfl (by decide) ⟨⟨Nat.le_of_ble_eq_true rfl, Nat.le_of_ble_eq_true rfl, Nat.le_of_ble_eq_true rfl⟩, rfl⟩ rfl rfl rfl
set_option maxRecDepth 100000 in
theorem q165_940 (d : Nat) (z : Int) (x : Int) (l0 l1 l2 l3 : Option sf_V) (M : sf_M) (sc : Option (List Int)) (Q : Option sf_V → sf_M → Prop) : sf_wp d sc 165 940 [l0, l1, l2, l3] [.inl z, .inl x] M Q = if x = z then sf_wp d sc 165 968 [l0, l1, l2, l3] [] M Q else sf_wp d sc 165 943 [l0, l1, l2, l3] [] M Q := sf_qic_eq rfl
set_option maxRecDepth 100000 in
theorem q165_943 (d : Nat) (l0 l1 l2 l3 : Option sf_V) (M : sf_M) (sc : Option (List Int)) (Q : Option sf_V → sf_M → Prop) : sf_wp d sc 165 943 [l0, l1, l2, l3] [] M Q = sf_wp d sc 165 944 [l0, l1, l2, l3] [.inl 0] M Q := sf_q rfl rfl
set_option maxRecDepth 100000 in
theorem q165_944 (d : Nat) (x : Int) (l0 l1 l2 l3 : Option sf_V) (M : sf_M) (sc : Option (List Int)) (Q : Option sf_V → sf_M → Prop) : sf_wp d sc 165 944 [l0, l1, l2, l3] [.inl x] M Q = ((x = 0 ∨ x = 1) ∧ Q (some (.inl x)) M) := sf_qRz rfl
set_option maxRecDepth 100000 in
theorem q165_945 (d : Nat) (x : Nat) (l0 l2 l3 : Option sf_V) (M : sf_M) (sc : Option (List Int)) (Q : Option sf_V → sf_M → Prop) : sf_wp d sc 165 945 [l0, some (.inr (.inl (some x))), l2, l3] [] M Q = sf_wp d sc 165 946 [l0, some (.inr (.inl (some x))), l2, l3] [.inr (.inl (some x))] M Q := sf_q rfl rfl
set_option maxRecDepth 100000 in
theorem q165_946 (d : Nat) (l1 l2 l3 : Option sf_V) (s0 : sf_V) (M : sf_M) (sc : Option (List Int)) (Q : Option sf_V → sf_M → Prop) : sf_wp d sc 165 946 [some (.inr (.inr (.inr ()))), l1, l2, l3] [s0] M Q = sf_wp d sc 165 947 [some (.inr (.inr (.inr ()))), l1, l2, l3] [.inr (.inr (.inr ())), s0] M Q := sf_q rfl rfl
set_option maxRecDepth 100000 in
theorem q165_947 (d : Nat) (x : Int) (l0 l1 l2 : Option sf_V) (s0 s1 : sf_V) (M : sf_M) (sc : Option (List Int)) (Q : Option sf_V → sf_M → Prop) : sf_wp d sc 165 947 [l0, l1, l2, some (.inl x)] [s0, s1] M Q = sf_wp d sc 165 948 [l0, l1, l2, some (.inl x)] [.inl x, s0, s1] M Q := sf_q rfl rfl
set_option maxRecDepth 100000 in
theorem q165_948 (d : Nat) (l0 l1 l2 l3 : Option sf_V) (s0 s1 s2 : sf_V) (M : sf_M) (sc : Option (List Int)) (Q : Option sf_V → sf_M → Prop) : sf_wp d sc 165 948 [l0, l1, l2, l3] [s0, s1, s2] M Q = sf_wp d sc 165 949 [l0, l1, l2, l3] [.inl 1, s0, s1, s2] M Q := sf_q rfl rfl
set_option maxRecDepth 100000 in
theorem q165_949 (d : Nat) (z : Int) (x : Int) (l0 l1 l2 l3 : Option sf_V) (s2 s3 : sf_V) (M : sf_M) (sc : Option (List Int)) (Q : Option sf_V → sf_M → Prop) : sf_wp d sc 165 949 [l0, l1, l2, l3] [.inl z, .inl x, s2, s3] M Q = sf_wp d sc 165 950 [l0, l1, l2, l3] [.inl (sf_w (x + z)), s2, s3] M Q := sf_q rfl rfl
set_option maxRecDepth 100000 in
theorem q165_950 (d : Nat) (x : Int) (l0 l1 l2 l3 : Option sf_V) (s2 : sf_V) (M : sf_M) (xs : List Int) (Q : Option sf_V → sf_M → Prop) : sf_wp d (some xs) 165 950 [l0, l1, l2, l3] [.inl x, .inr (.inr (.inr ())), s2] M Q = ((0 ≤ x ∧ x < xs.length) ∧ sf_wp d (some xs) 165 951 [l0, l1, l2, l3] [.inl (xs.getD x.toNat 0), s2] M Q) := sf_qS_ld rfl
set_option maxRecDepth 100000 in
theorem q165_951 (d : Nat) (a1 : Int) (a0 : Nat) (l0 l1 l2 l3 : Option sf_V) (V : sf_MV) (sc : Option (List Int)) (Q : Option sf_V → sf_M → Prop) (h : sf_cls a0 = 11) : sf_wp (d + 1) sc 165 951 [l0, l1, l2, l3] [.inl a1, .inr (.inl (some a0))] (sf_E V) Q = sf_wp d none 89 0 [some (.inr (.inl (some a0))), some (.inl a1)] [] (sf_E V) (fun r M1 => sf_wp (d + 1) sc 165 954 [l0, l1, l2, l3] (r.toList ++ []) M1 Q) := sf_qV h rfl (by decide) ⟨⟨Nat.le_of_ble_eq_true rfl, Nat.le_of_ble_eq_true rfl, Nat.le_of_ble_eq_true rfl⟩, rfl⟩ rfl rfl rfl
set_option maxRecDepth 100000 in
theorem q165_954 (d : Nat) (x : Nat) (l0 l1 l3 : Option sf_V) (s0 : sf_V) (M : sf_M) (sc : Option (List Int)) (Q : Option sf_V → sf_M → Prop) : sf_wp d sc 165 954 [l0, l1, some (.inr (.inl (some x))), l3] [s0] M Q = sf_wp d sc 165 955 [l0, l1, some (.inr (.inl (some x))), l3] [.inr (.inl (some x)), s0] M Q := sf_q rfl rfl
set_option maxRecDepth 100000 in
theorem q165_955 (d : Nat) (l1 l2 l3 : Option sf_V) (s0 s1 : sf_V) (M : sf_M) (sc : Option (List Int)) (Q : Option sf_V → sf_M → Prop) : sf_wp d sc 165 955 [some (.inr (.inr (.inr ()))), l1, l2, l3] [s0, s1] M Q = sf_wp d sc 165 956 [some (.inr (.inr (.inr ()))), l1, l2, l3] [.inr (.inr (.inr ())), s0, s1] M Q := sf_q rfl rfl
set_option maxRecDepth 100000 in
theorem q165_956 (d : Nat) (x : Int) (l0 l1 l2 : Option sf_V) (s0 s1 s2 : sf_V) (M : sf_M) (sc : Option (List Int)) (Q : Option sf_V → sf_M → Prop) : sf_wp d sc 165 956 [l0, l1, l2, some (.inl x)] [s0, s1, s2] M Q = sf_wp d sc 165 957 [l0, l1, l2, some (.inl x)] [.inl x, s0, s1, s2] M Q := sf_q rfl rfl
set_option maxRecDepth 100000 in
theorem q165_957 (d : Nat) (l0 l1 l2 l3 : Option sf_V) (s0 s1 s2 s3 : sf_V) (M : sf_M) (sc : Option (List Int)) (Q : Option sf_V → sf_M → Prop) : sf_wp d sc 165 957 [l0, l1, l2, l3] [s0, s1, s2, s3] M Q = sf_wp d sc 165 958 [l0, l1, l2, l3] [.inl 1, s0, s1, s2, s3] M Q := sf_q rfl rfl
set_option maxRecDepth 100000 in
theorem q165_958 (d : Nat) (z : Int) (x : Int) (l0 l1 l2 l3 : Option sf_V) (s2 s3 s4 : sf_V) (M : sf_M) (sc : Option (List Int)) (Q : Option sf_V → sf_M → Prop) : sf_wp d sc 165 958 [l0, l1, l2, l3] [.inl z, .inl x, s2, s3, s4] M Q = sf_wp d sc 165 959 [l0, l1, l2, l3] [.inl (sf_w (x + z)), s2, s3, s4] M Q := sf_q rfl rfl
set_option maxRecDepth 100000 in
theorem q165_959 (d : Nat) (x : Int) (l0 l1 l2 l3 : Option sf_V) (s2 s3 : sf_V) (M : sf_M) (xs : List Int) (Q : Option sf_V → sf_M → Prop) : sf_wp d (some xs) 165 959 [l0, l1, l2, l3] [.inl x, .inr (.inr (.inr ())), s2, s3] M Q = ((0 ≤ x ∧ x < xs.length) ∧ sf_wp d (some xs) 165 960 [l0, l1, l2, l3] [.inl (xs.getD x.toNat 0), s2, s3] M Q) := sf_qS_ld rfl
set_option maxRecDepth 100000 in
theorem q165_960 (d : Nat) (a1 : Int) (a0 : Nat) (l0 l1 l2 l3 : Option sf_V) (s2 : sf_V) (V : sf_MV) (sc : Option (List Int)) (Q : Option sf_V → sf_M → Prop) (h : sf_cls a0 = 12) : sf_wp (d + 1) sc 165 960 [l0, l1, l2, l3] [.inl a1, .inr (.inl (some a0)), s2] (sf_E V) Q = sf_wp d none 163 0 [some (.inr (.inl (some a0))), some (.inl a1), none] [] (sf_E V) (fun r M1 => sf_wp (d + 1) sc 165 963 [l0, l1, l2, l3] (r.toList ++ [s2]) M1 Q) := sf_qV h rfl (by decide) ⟨⟨Nat.le_of_ble_eq_true rfl, Nat.le_of_ble_eq_true rfl, Nat.le_of_ble_eq_true rfl⟩, rfl⟩ rfl rfl rfl
set_option maxRecDepth 100000 in
theorem q165_963 (d : Nat) (z : Int) (x : Int) (l0 l1 l2 l3 : Option sf_V) (M : sf_M) (sc : Option (List Int)) (Q : Option sf_V → sf_M → Prop) : sf_wp d sc 165 963 [l0, l1, l2, l3] [.inl z, .inl x] M Q = if x = z then sf_wp d sc 165 968 [l0, l1, l2, l3] [] M Q else sf_wp d sc 165 966 [l0, l1, l2, l3] [] M Q := sf_qic_eq rfl
set_option maxRecDepth 100000 in
theorem q165_966 (d : Nat) (l0 l1 l2 l3 : Option sf_V) (M : sf_M) (sc : Option (List Int)) (Q : Option sf_V → sf_M → Prop) : sf_wp d sc 165 966 [l0, l1, l2, l3] [] M Q = sf_wp d sc 165 967 [l0, l1, l2, l3] [.inl 0] M Q := sf_q rfl rfl
set_option maxRecDepth 100000 in
theorem q165_967 (d : Nat) (x : Int) (l0 l1 l2 l3 : Option sf_V) (M : sf_M) (sc : Option (List Int)) (Q : Option sf_V → sf_M → Prop) : sf_wp d sc 165 967 [l0, l1, l2, l3] [.inl x] M Q = ((x = 0 ∨ x = 1) ∧ Q (some (.inl x)) M) := sf_qRz rfl
set_option maxRecDepth 100000 in
theorem q165_968 (d : Nat) (x : Int) (l0 l1 l2 : Option sf_V) (M : sf_M) (sc : Option (List Int)) (Q : Option sf_V → sf_M → Prop) : sf_wp d sc 165 968 [l0, l1, l2, some (.inl x)] [] M Q = sf_wp d sc 165 971 [l0, l1, l2, some (.inl (sf_w (x + 5)))] [] M Q := sf_q rfl rfl
set_option maxRecDepth 100000 in
theorem q165_971 (d : Nat) (l0 l1 l2 l3 : Option sf_V) (M : sf_M) (sc : Option (List Int)) (Q : Option sf_V → sf_M → Prop) : sf_wp d sc 165 971 [l0, l1, l2, l3] [] M Q = sf_wp d sc 165 18 [l0, l1, l2, l3] [] M Q := sf_q rfl rfl
set_option maxRecDepth 100000 in
theorem q165_974 (d : Nat) (l0 l1 l2 l3 : Option sf_V) (M : sf_M) (sc : Option (List Int)) (Q : Option sf_V → sf_M → Prop) : sf_wp d sc 165 974 [l0, l1, l2, l3] [] M Q = sf_wp d sc 165 975 [l0, l1, l2, l3] [.inl 1] M Q := sf_q rfl rfl
set_option maxRecDepth 100000 in
theorem q165_975 (d : Nat) (x : Int) (l0 l1 l2 l3 : Option sf_V) (M : sf_M) (sc : Option (List Int)) (Q : Option sf_V → sf_M → Prop) : sf_wp d sc 165 975 [l0, l1, l2, l3] [.inl x] M Q = ((x = 0 ∨ x = 1) ∧ Q (some (.inl x)) M) := sf_qRz rfl
