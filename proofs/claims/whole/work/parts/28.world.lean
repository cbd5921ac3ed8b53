/-! the classes at the start of the law -/
theorem sf_w0 {args : Array Value} {s : State} (hts : ∀ w ∈ lw_tbl, w.before args s = true) : ∃ (c : ClassId) (f : Nat → Nat), u_Kn s RX0 TX0 3 c f := by
  have h1 : Cond.instantiable RX0 3 ∈ lw_tbl := List.mem_of_getElem? (i := 301) (by decide +kernel)
  exact u_known (C := RX0) (T := TX0) (N := 3) (n := 3) hts jnX0 (hts _ h1)
theorem sf_w1 {args : Array Value} {s : State} (hts : ∀ w ∈ lw_tbl, w.before args s = true) : ∃ (c : ClassId) (f : Nat → Nat), u_Kn s RX1 TX1 6 c f := by
  have h1 : Cond.instantiable RX1 6 ∈ lw_tbl := List.mem_of_getElem? (i := 369) (by decide +kernel)
  exact u_known (C := RX1) (T := TX1) (N := 6) (n := 6) hts jnX1 (hts _ h1)
theorem sf_w2 {args : Array Value} {s : State} (hts : ∀ w ∈ lw_tbl, w.before args s = true) : ∃ (c : ClassId) (f : Nat → Nat), u_Kn s RX2 TX2 8 c f := by
  have h1 : Cond.instantiable RX2 8 ∈ lw_tbl := List.mem_of_getElem? (i := 105) (by decide +kernel)
  exact u_known (C := RX2) (T := TX2) (N := 8) (n := 8) hts jnX2 (hts _ h1)
theorem sf_w3 {args : Array Value} {s : State} (hts : ∀ w ∈ lw_tbl, w.before args s = true) : ∃ (c : ClassId) (f : Nat → Nat), u_Kn s RX3 TX3 5 c f := by
  have h1 : Cond.instantiable RX3 5 ∈ lw_tbl := List.mem_of_getElem? (i := 276) (by decide +kernel)
  exact u_known (C := RX3) (T := TX3) (N := 5) (n := 5) hts jnX3 (hts _ h1)
theorem sf_w4 {args : Array Value} {s : State} (hts : ∀ w ∈ lw_tbl, w.before args s = true) : ∃ (c : ClassId) (f : Nat → Nat), u_Kn s RX4 TX4 3 c f := by
  have h1 : Cond.instantiable RX4 3 ∈ lw_tbl := List.mem_of_getElem? (i := 238) (by decide +kernel)
  exact u_known (C := RX4) (T := TX4) (N := 3) (n := 3) hts jnX4 (hts _ h1)
theorem sf_w5 {args : Array Value} {s : State} (hts : ∀ w ∈ lw_tbl, w.before args s = true) : ∃ (c : ClassId) (f : Nat → Nat), u_Kn s RX5 TX5 11 c f := by
  have h1 : Cond.instantiable RX5 11 ∈ lw_tbl := List.mem_of_getElem? (i := 325) (by decide +kernel)
  exact u_known (C := RX5) (T := TX5) (N := 11) (n := 11) hts jnX5 (hts _ h1)
theorem sf_w6 {args : Array Value} {s : State} (hts : ∀ w ∈ lw_tbl, w.before args s = true) : ∃ (c : ClassId) (f : Nat → Nat), u_Kn s RX6 TX6 6 c f := by
  have h1 : Cond.instantiable RX6 6 ∈ lw_tbl := List.mem_of_getElem? (i := 398) (by decide +kernel)
  exact u_known (C := RX6) (T := TX6) (N := 6) (n := 6) hts jnX6 (hts _ h1)
theorem sf_w7 {args : Array Value} {s : State} (hts : ∀ w ∈ lw_tbl, w.before args s = true) : ∃ (c : ClassId) (f : Nat → Nat), u_Kn s RX7 TX7 1 c f := by
  have h1 : Cond.instantiable RX7 1 ∈ lw_tbl := List.mem_of_getElem? (i := 91) (by decide +kernel)
  exact u_known (C := RX7) (T := TX7) (N := 1) (n := 1) hts jnX7 (hts _ h1)
theorem sf_w8 {args : Array Value} {s : State} (hts : ∀ w ∈ lw_tbl, w.before args s = true) : ∃ (c : ClassId) (f : Nat → Nat), u_Kn s RX8 TX8 2 c f := by
  have h1 : Cond.instantiable RX8 2 ∈ lw_tbl := List.mem_of_getElem? (i := 244) (by decide +kernel)
  exact u_known (C := RX8) (T := TX8) (N := 2) (n := 2) hts jnX8 (hts _ h1)
theorem sf_w9 {args : Array Value} {s : State} (hts : ∀ w ∈ lw_tbl, w.before args s = true) : ∃ (c : ClassId) (f : Nat → Nat), u_Kn s RX9 TX9 6 c f := by
  have h1 : Cond.instantiable RX9 6 ∈ lw_tbl := List.mem_of_getElem? (i := 199) (by decide +kernel)
  exact u_known (C := RX9) (T := TX9) (N := 6) (n := 6) hts jnX9 (hts _ h1)
theorem sf_w10 {args : Array Value} {s : State} (hts : ∀ w ∈ lw_tbl, w.before args s = true) : ∃ (c : ClassId) (f : Nat → Nat), u_Kn s RX10 TX10 8 c f := by
  have h1 : Cond.instantiable RX10 8 ∈ lw_tbl := List.mem_of_getElem? (i := 85) (by decide +kernel)
  exact u_known (C := RX10) (T := TX10) (N := 8) (n := 8) hts jnX10 (hts _ h1)
theorem sf_w11 {args : Array Value} {s : State} (hts : ∀ w ∈ lw_tbl, w.before args s = true) : ∃ (c : ClassId) (f : Nat → Nat), u_Kn s RX11 TX11 14 c f := by
  have h1 : Cond.instantiable RX11 14 ∈ lw_tbl := List.mem_of_getElem? (i := 77) (by decide +kernel)
  exact u_known (C := RX11) (T := TX11) (N := 14) (n := 14) hts jnX11 (hts _ h1)
theorem sf_w12 {args : Array Value} {s : State} (hts : ∀ w ∈ lw_tbl, w.before args s = true) : ∃ (c : ClassId) (f : Nat → Nat), u_Kn s RX12 TX12 40 c f := by
  have h1 : Cond.instantiable RX12 40 ∈ lw_tbl := List.mem_of_getElem? (i := 889) (by decide +kernel)
  exact u_known (C := RX12) (T := TX12) (N := 40) (n := 40) hts jnX12 (hts _ h1)
theorem sf_nest_in : ∀ q ∈ sf_nest, Cond.methodLinkNest q.1 q.2.1 q.2.2.1 q.2.2.2 ∈ lw_tbl := by
  intro q hq
  have h : sf_nest.map (fun q => Cond.methodLinkNest q.1 q.2.1 q.2.2.1 q.2.2.2) = [86, 200, 239, 250, 277, 302, 326, 370, 399, 404].filterMap (fun i => lw_tbl[i]?) := by decide +kernel
  have h2 := List.mem_map_of_mem (f := fun q : String × Nat × MethodName × String => Cond.methodLinkNest q.1 q.2.1 q.2.2.1 q.2.2.2) hq
  rw [h] at h2
  obtain ⟨i, -, hi⟩ := List.mem_filterMap.mp h2
  exact List.mem_of_getElem? hi
theorem sf_world {args : Array Value} {s : State} (hts : ∀ w ∈ lw_tbl, w.before args s = true) : ∃ (dC : Nat → ClassId) (dI : Nat → Nat → Nat), ∀ (k : Nat) (q : vw_C), vwCl[k]? = some q → u_Kn s q.1 q.2.1 q.2.2 (dC k) (dI k) := by
  obtain ⟨c0, i0, hk0⟩ := sf_w0 hts
  obtain ⟨c1, i1, hk1⟩ := sf_w1 hts
  obtain ⟨c2, i2, hk2⟩ := sf_w2 hts
  obtain ⟨c3, i3, hk3⟩ := sf_w3 hts
  obtain ⟨c4, i4, hk4⟩ := sf_w4 hts
  obtain ⟨c5, i5, hk5⟩ := sf_w5 hts
  obtain ⟨c6, i6, hk6⟩ := sf_w6 hts
  obtain ⟨c7, i7, hk7⟩ := sf_w7 hts
  obtain ⟨c8, i8, hk8⟩ := sf_w8 hts
  obtain ⟨c9, i9, hk9⟩ := sf_w9 hts
  obtain ⟨c10, i10, hk10⟩ := sf_w10 hts
  obtain ⟨c11, i11, hk11⟩ := sf_w11 hts
  obtain ⟨c12, i12, hk12⟩ := sf_w12 hts
  refine ⟨fun k => [c0, c1, c2, c3, c4, c5, c6, c7, c8, c9, c10, c11, c12].getD k c0, fun k => [i0, i1, i2, i3, i4, i5, i6, i7, i8, i9, i10, i11, i12].getD k i0, ?_⟩
  intro k q hq
  have hlt : k < 13 := (List.getElem?_eq_some_iff.mp hq).1
  by_cases e0 : k = 0
  · subst e0; cases (Option.some.inj hq); exact hk0
  by_cases e1 : k = 1
  · subst e1; cases (Option.some.inj hq); exact hk1
  by_cases e2 : k = 2
  · subst e2; cases (Option.some.inj hq); exact hk2
  by_cases e3 : k = 3
  · subst e3; cases (Option.some.inj hq); exact hk3
  by_cases e4 : k = 4
  · subst e4; cases (Option.some.inj hq); exact hk4
  by_cases e5 : k = 5
  · subst e5; cases (Option.some.inj hq); exact hk5
  by_cases e6 : k = 6
  · subst e6; cases (Option.some.inj hq); exact hk6
  by_cases e7 : k = 7
  · subst e7; cases (Option.some.inj hq); exact hk7
  by_cases e8 : k = 8
  · subst e8; cases (Option.some.inj hq); exact hk8
  by_cases e9 : k = 9
  · subst e9; cases (Option.some.inj hq); exact hk9
  by_cases e10 : k = 10
  · subst e10; cases (Option.some.inj hq); exact hk10
  by_cases e11 : k = 11
  · subst e11; cases (Option.some.inj hq); exact hk11
  by_cases e12 : k = 12
  · subst e12; cases (Option.some.inj hq); exact hk12
  omega
def sf_gArr (aI aZ aO : ClassId) : Nat → ClassId := fun t => match t with
  | 0 => aI
  | 1 => aZ
  | _ => aO
theorem sf_worldK {args : Array Value} {s : State} (hts : ∀ w ∈ lw_tbl, w.before args s = true) : ∃ (D : va_G) (cA : Nat → ClassId), ∀ (b0 b1 : Nat), sf_KK D (sf_tys (b0, b1, D, cA)) s := by
  obtain ⟨dC, dI, hKc⟩ := sf_world hts
  obtain ⟨aI, kI, compI, fI1, fI2, fI3⟩ := Cond.arrayClass_spec (hts (.arrayClass .int) (List.mem_of_getElem? (i := 103) (by decide +kernel)))
  obtain ⟨aZ, kZ, compZ, fZ1, fZ2, fZ3⟩ := Cond.arrayClass_spec (hts (.arrayClass .boolean) (List.mem_of_getElem? (i := 1015) (by decide +kernel)))
  have hover := hts (.arrayOver (.object "StoveFavours$Stove")) (List.mem_of_getElem? (i := 252) (by decide +kernel))
  obtain ⟨compO, aO, kO, fO1, -, fO2, fO3, fO4⟩ := Cond.arrayOver_spec hover
  refine ⟨(dC, dI), sf_gArr aI aZ aO, fun b0 b1 => ⟨⟨hKc, fun k q hq => ?_⟩, fun q hq => va_Nw.of rfl (hts _ (sf_nest_in q hq)), va_AO.of hover⟩⟩
  have hlt : k < 3 := (List.getElem?_eq_some_iff.mp hq).1
  by_cases e0 : k = 0
  · subst e0; cases (Option.some.inj hq); exact ⟨fun n z => ⟨fun k h => (by cases h), kI, fI2, compI, fI3⟩, fI1⟩
  by_cases e1 : k = 1
  · subst e1; cases (Option.some.inj hq); exact ⟨fun n z => ⟨fun k h => (by cases h), kZ, fZ2, compZ, fZ3⟩, fZ1⟩
  by_cases e2 : k = 2
  · subst e2; cases (Option.some.inj hq); exact ⟨fun n z => ⟨fun k h => (by cases h), kO, fO2, compO, fO3⟩, kO, compO, fO2, fO3, fO1, fO4⟩
  omega
theorem sf_scr {s : State} {b L : Nat} {xs : Nat → Int32} (hL : L ≤ 2560) (hX : va_X b L xs s s.heap) (hbl : b < s.heap.size) (D : va_G) (cA : Nat → ClassId) : ∃ xl : List Int, xl.length ≤ 2560 ∧ (∀ x ∈ xl, sf_oi x) ∧ sf_Sc (s.heap.size, b, D, cA) (some xl) s := by
  refine ⟨(List.range L).map (fun j => (xs j).toInt), by simpa using hL, ?_, ?_⟩
  · intro x hx9
    obtain ⟨j, -, rfl⟩ := List.mem_map.mp hx9
    exact sf_oiT _
  · intro xs' he
    have he := Option.some.inj he
    obtain ⟨scr, g1, g2, g3, g4, g5⟩ := hX
    have hlen : xs'.length = L := by rw [← he]; simp
    refine ⟨⟨scr, g1, g2, g3, by rw [hlen]; exact g4, fun j hj => ?_⟩, hbl, hbl, by rw [hlen]; omega, ?_⟩
    · rw [hlen] at hj
      rw [g5 j hj]
      have : xs'.getD j 0 = (xs j).toInt := by rw [← he]; simp [List.getD, hj]
      show some (Value.int (xs j)) = some (Value.int (Int32.ofInt (xs'.getD j 0)))
      rw [this, sf_ofT]
    · rw [← he]
      intro x hx9
      obtain ⟨j, -, rfl⟩ := List.mem_map.mp hx9
      exact sf_oiT _
theorem sf_slE (V : sf_MV) : sf_sl (sf_E V) ≤ 7302250 := by
  have h1 : (sf_E V).map sf_sz = sf_M0.map sf_sz := by
    apply List.ext_getElem?
    intro k
    rw [List.getElem?_map, List.getElem?_map, sf_E_get]
    cases sf_M0[k]? with
    | none => rfl
    | some z => match z with
      | .inl o => simp [sf_fill, sf_sz]
      | .inr (.inl t) => simp [sf_fill, sf_sz]
      | .inr (.inr q) => simp [sf_fill, sf_sz]
  unfold sf_sl
  rw [h1]
  exact Nat.le_of_ble_eq_true (by decide +kernel)
