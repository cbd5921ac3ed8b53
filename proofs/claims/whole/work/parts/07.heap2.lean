/-! the actions on cells -/
theorem sf_vpin {x : Int} {n : Nat} (h : sf_oi x) (h0 : 0 ≤ x) (h1 : x < n) : vp_in (Int32.ofInt x) n := by
  unfold vp_in
  rw [sf_clamp h h0, show (0 : Int32) = Int32.ofInt 0 from rfl, sf_lt32 h sf_oi0]
  omega
theorem sf_okC_fs {o : Nat × List sf_V} {k : Nat} {v : sf_V} (h : sf_okC (.inl o)) (hv : sf_ok v) : sf_okC (.inl (o.1, o.2.set k v)) := by
  intro w hw
  rcases List.mem_or_eq_of_mem_set hw with h1 | h1
  · exact h w h1
  · rw [h1]; exact hv
theorem sf_okC_xs {t : Nat × List Int} {k : Nat} {x : Int} (h : sf_okC (.inr (.inl t))) (hx : sf_oi x) : sf_okC (.inr (.inl (t.1, t.2.set k x))) := by
  intro w hw
  rcases List.mem_or_eq_of_mem_set hw with h1 | h1
  · exact h w h1
  · rw [h1]; exact hx
def sf_aPut (ci k z nx : Nat) : sf_A := fun _ ls st M => match st with
  | v :: .inr (.inl (some a)) :: r => match M[a]? with
    | some (.inl o) => if o.1 = ci ∧ k < o.2.length ∧ sf_fz z v = true then some (nx, ls, r, M.set a (.inl (o.1, o.2.set k v))) else none
    | _ => none
  | _ => none
theorem sf_r_put {i : sf_I} {pc ci k z N index : Nat} {C : String} {T : u_T} {ty0 : Nat → FieldType} (hd : decode i.2.1 pc = .ok (.putfield index, 3)) (hc : vwCl[ci]? = some (C, T, N)) (hk : k < N) (hin : ∀ w ∈ u_ws C T N, w ∈ sf_tb) (hty : ∀ k, k < N → parseFieldDescriptor (T k).2.2.1 = some (ty0 k)) (hnm : ∀ a, a < N → ∀ b, b < N → a ≠ b → (T a).2.1 ≠ (T b).2.1) (hl : Cond.fieldLink i.1.cls index (T k).1 (T k).2.1 (T k).2.2.1 ∈ sf_tb) (hfin : (T k).2.2.2 = false) (hp : parseFieldDescriptor (T k).2.2.1 = some (sf_ty z)) : sf_AS i pc (sf_aPut ci k z (pc + 3)) := by
  intro g sc ls st M pc' ls' st' M' hf
  unfold sf_aPut at hf
  split at hf
  · rename_i v a r
    split at hf
    · rename_i o ho
      split at hf
      · rename_i hh
        obtain ⟨hci, hko, hz⟩ := hh
        cases hf
        have hs0 : sf_sz (.inl (o.1, o.2.set k v)) = sf_sz (.inl o) := by simp [sf_sz]
        refine ⟨⟨by rw [List.length_set]; exact Nat.le_refl _, by rw [sf_sl_set ho hs0]; exact Nat.le_refl _⟩, ?_⟩
        intro d p l e R s m args below meth c Q k0 k1 hC h0 h1 h2 h3 kk H locs larr hR hS hL hok
        obtain ⟨hx, hb, hml, hown, hts, ⟨hK, hKn⟩, -⟩ := hC
        subst hci
        obtain ⟨f1, f2⟩ := sf_fz_fits (g := g) hz
        refine sf_W_put (D := g.2.2.1) (cl := vwCl) (ws := sf_wld g M) (tys := sf_tys g) hx hb hts hin ty0 hty hnm hown hK hR.2.1 (sf_wld_D g M) hS a (sf_wld_at ho) hc k hk (hts _ hl) hfin hp f1 f2 (by simpa using hko) hd (fun H1 locs1 z1 P1 S1 => ?_)
        have := kk H1 locs1 larr (sf_RelSet hR ho (sf_okC_fs (k := k) (sf_mem_ok hR.2.2 ho) (hok v List.mem_cons_self)) z1 (by simpa [sf_enc, List.map_set] using P1)) S1 hL (fun w hw => hok w (List.mem_cons_of_mem _ (List.mem_cons_of_mem _ hw)))
        rw [List.length_set, sf_sl_set ho hs0] at this
        exact this
      · cases hf
    · cases hf
  · cases hf
def sf_aPutR (ci k nx : Nat) : sf_A := fun _ ls st M => match st with
  | .inr (.inl v) :: .inr (.inl (some a)) :: r => match M[a]? with
    | some (.inl o) => if o.1 = ci ∧ k < o.2.length then some (nx, ls, r, M.set a (.inl (o.1, o.2.set k (.inr (.inl v))))) else none
    | _ => none
  | _ => none
theorem sf_r_putR {i : sf_I} {pc ci k N index : Nat} {C : String} {T : u_T} {ty0 : Nat → FieldType} {ty : FieldType} (hd : decode i.2.1 pc = .ok (.putfield index, 3)) (hc : vwCl[ci]? = some (C, T, N)) (hk : k < N) (hin : ∀ w ∈ u_ws C T N, w ∈ sf_tb) (hty : ∀ k, k < N → parseFieldDescriptor (T k).2.2.1 = some (ty0 k)) (hnm : ∀ a, a < N → ∀ b, b < N → a ≠ b → (T a).2.1 ≠ (T b).2.1) (hl : Cond.fieldLink i.1.cls index (T k).1 (T k).2.1 (T k).2.2.1 ∈ sf_tb) (hfin : (T k).2.2.2 = true) (hini : i.1.name = "<init>") (hdecl : (T k).1 = i.1.cls) (hp : parseFieldDescriptor (T k).2.2.1 = some ty) (hty2 : (∃ n, ty = .object n) ∨ ∃ t, ty = .array t) : sf_AS i pc (sf_aPutR ci k (pc + 3)) := by
  intro g sc ls st M pc' ls' st' M' hf
  unfold sf_aPutR at hf
  split at hf
  · rename_i v a r
    split at hf
    · rename_i o ho
      split at hf
      · rename_i hh
        obtain ⟨hci, hko⟩ := hh
        cases hf
        have hs0 : sf_sz (.inl (o.1, o.2.set k (.inr (.inl v)))) = sf_sz (.inl o) := by simp [sf_sz]
        refine ⟨⟨by rw [List.length_set]; exact Nat.le_refl _, by rw [sf_sl_set ho hs0]; exact Nat.le_refl _⟩, ?_⟩
        intro d p l e R s m args below meth c Q k0 k1 hC h0 h1 h2 h3 kk H locs larr hR hS hL hok
        obtain ⟨hx, hb, hml, hown, hts, ⟨hK, hKn⟩, -, -, -, hnm2, -⟩ := hC
        subst hci
        have f12 : narrow ty (sf_cv g (.inr (.inl v))) = sf_cv g (.inr (.inl v)) ∧ fits ty (sf_cv g (.inr (.inl v))) = true := by
          rcases hty2 with ⟨n, rfl⟩ | ⟨n, rfl⟩ <;> cases v <;> exact ⟨rfl, rfl⟩
        refine sf_W_putF (D := g.2.2.1) (cl := vwCl) (ws := sf_wld g M) (tys := sf_tys g) hx hb hts hin ty0 hty hnm hown hK hR.2.1 (sf_wld_D g M) hS a (sf_wld_at ho) hc k hk (hts _ hl) hfin (hnm2 hini) hdecl hp f12.1 f12.2 (by simpa using hko) hd (fun H1 locs1 z1 P1 S1 => ?_)
        have := kk H1 locs1 larr (sf_RelSet hR ho (sf_okC_fs (k := k) (sf_mem_ok hR.2.2 ho) (hok _ List.mem_cons_self)) z1 (by simpa [sf_enc, List.map_set] using P1)) S1 hL (fun w hw => hok w (List.mem_cons_of_mem _ (List.mem_cons_of_mem _ hw)))
        rw [List.length_set, sf_sl_set ho hs0] at this
        exact this
      · cases hf
    · cases hf
  · cases hf
def sf_aIal (nx : Nat) : sf_A := fun sc ls st M => match st with
  | .inl x :: .inr (.inl (some a)) :: r => match M[a]? with
    | some (.inr (.inl (0, xs))) => if 0 ≤ x ∧ x < xs.length then some (nx, ls, .inl (xs.getD x.toNat 0) :: r, M) else none
    | _ => none
  | .inl x :: .inr (.inr (.inr _)) :: r => match sc with
    | some xs => if 0 ≤ x ∧ x < xs.length then some (nx, ls, .inl (xs.getD x.toNat 0) :: r, M) else none
    | none => none
  | _ => none
theorem sf_getD_ok {xs : List Int} {n : Nat} (h : ∀ x ∈ xs, sf_oi x) (hn : n < xs.length) : sf_oi (xs.getD n 0) := by
  have : xs.getD n 0 = xs[n] := by simp [List.getD, List.getElem?_eq_getElem hn]
  rw [this]
  exact h _ (List.getElem_mem hn)
theorem sf_r_iaload {i : sf_I} {pc : Nat} (hd : decode i.2.1 pc = .ok (.iaload, 1)) : sf_AS i pc (sf_aIal (pc + 1)) := by
  intro g sc ls st M pc' ls' st' M' hf
  unfold sf_aIal at hf
  split at hf
  · rename_i x a r
    split at hf
    · rename_i xs ho
      split at hf
      · rename_i hh
        cases hf
        refine ⟨⟨Nat.le_refl _, Nat.le_refl _⟩, ?_⟩
        intro d p l e R s m args below meth c Q k0 k1 hC h0 h1 h2 h3 kk H locs larr hR hS hL hok
        obtain ⟨hx, hb, hml, hown, hts, ⟨hK, hKn⟩, -⟩ := hC
        have hxo : sf_oi x := hok (.inl x) List.mem_cons_self
        have hov : sf_oi (xs.getD x.toNat 0) := sf_getD_ok (sf_mem_ok hR.2.2 ho) (by omega)
        have k2 := kk H locs larr hR hS hL (fun w hw => (List.mem_cons.mp hw).elim (fun z => by rw [z]; exact hov) (fun z => hok w (List.mem_cons_of_mem _ (List.mem_cons_of_mem _ z))))
        refine va_iald (D := g.2.2.1) (cl := vwCl) (ws := sf_wld g M) (tys := sf_tys g) hx hb hK hR.2.1 a 0 (sf_wld_at ho) rfl (i := Int32.ofInt x) (sf_vpin hxo hh.1 hh.2) hd ?_
        rw [sf_clamp hxo hh.1]
        exact k2
      · cases hf
    · cases hf
  · rename_i x u r
    split at hf
    · rename_i xs
      split at hf
      · rename_i hh
        cases hf
        refine ⟨⟨Nat.le_refl _, Nat.le_refl _⟩, ?_⟩
        intro d p l e R s m args below meth c Q k0 k1 hC h0 h1 h2 h3 kk H locs larr hR hS hL hok
        obtain ⟨hx, hb, hml, hown, hts, ⟨hK, hKn⟩, -, -, -, -, hsc⟩ := hC
        obtain ⟨hX, hbl, hbb, hlen, hall⟩ := hsc xs rfl
        have hxo : sf_oi x := hok (.inl x) List.mem_cons_self
        have hov : sf_oi (xs.getD x.toNat 0) := sf_getD_ok hall (by omega)
        have k2 := kk H locs larr hR hS hL (fun w hw => (List.mem_cons.mp hw).elim (fun z => by rw [z]; exact hov) (fun z => hok w (List.mem_cons_of_mem _ (List.mem_cons_of_mem _ z))))
        refine va_sld (A := fun q => g.1 ≤ q) hx hb hX hbl (by omega) hS (i := Int32.ofInt x) (sf_vpin hxo hh.1 hh.2) hd ?_
        rw [sf_clamp hxo hh.1]
        exact k2
      · cases hf
    · cases hf
  · cases hf
theorem sf_updD {xs : List Int} {n : Nat} (v : Int) (hn : n < xs.length) (j : Nat) : Int32.ofInt ((xs.set n v).getD j 0) = if j = n then Int32.ofInt v else Int32.ofInt (xs.getD j 0) := by
  by_cases h : j = n
  · subst h
    simp [List.getD, hn]
  · simp [List.getD, h, List.getElem?_set_ne (fun z => h z.symm)]
def sf_aIas (nx : Nat) : sf_A := fun _ ls st M => match st with
  | .inl v :: .inl x :: .inr (.inl (some a)) :: r => match M[a]? with
    | some (.inr (.inl (0, xs))) => if 0 ≤ x ∧ x < xs.length then some (nx, ls, r, M.set a (.inr (.inl (0, xs.set x.toNat v)))) else none
    | _ => none
  | _ => none
theorem sf_r_iastore {i : sf_I} {pc : Nat} (hd : decode i.2.1 pc = .ok (.iastore, 1)) : sf_AS i pc (sf_aIas (pc + 1)) := by
  intro g sc ls st M pc' ls' st' M' hf
  unfold sf_aIas at hf
  split at hf
  · rename_i v x a r
    split at hf
    · rename_i xs ho
      split at hf
      · rename_i hh
        cases hf
        have hs0 : sf_sz (.inr (.inl (0, xs.set x.toNat v))) = sf_sz (.inr (.inl (0, xs))) := by simp [sf_sz]
        refine ⟨⟨by rw [List.length_set]; exact Nat.le_refl _, by rw [sf_sl_set ho hs0]; exact Nat.le_refl _⟩, ?_⟩
        intro d p l e R s m args below meth c Q k0 k1 hC h0 h1 h2 h3 kk H locs larr hR hS hL hok
        obtain ⟨hx, hb, hml, hown, hts, ⟨hK, hKn⟩, -⟩ := hC
        have hvo : sf_oi v := hok (.inl v) List.mem_cons_self
        have hxo : sf_oi x := hok (.inl x) (List.mem_cons_of_mem _ List.mem_cons_self)
        refine sf_W_iast (D := g.2.2.1) (cl := vwCl) (ws := sf_wld g M) (tys := sf_tys g) hx hb hK hR.2.1 (sf_wld_D g M) hS a 0 (sf_wld_at ho) rfl (i := Int32.ofInt x) (x := Int32.ofInt v) (f1 := fun j => Int32.ofInt ((xs.set x.toNat v).getD j 0)) (sf_vpin hxo hh.1 hh.2) (fun j => by rw [sf_clamp hxo hh.1]; exact sf_updD v (by omega) j) hd (fun H1 locs1 z1 P1 S1 => ?_)
        have := kk H1 locs1 larr (sf_RelSet hR ho (sf_okC_xs (k := x.toNat) (sf_mem_ok hR.2.2 ho) hvo) z1 (by simpa [sf_enc] using P1)) S1 hL (fun w hw => hok w (List.mem_cons_of_mem _ (List.mem_cons_of_mem _ (List.mem_cons_of_mem _ hw))))
        rw [List.length_set, sf_sl_set ho hs0] at this
        exact this
      · cases hf
    · cases hf
  · cases hf
def sf_aBal (nx : Nat) : sf_A := fun _ ls st M => match st with
  | .inl x :: .inr (.inl (some a)) :: r => match M[a]? with
    | some (.inr (.inl (1, xs))) => if 0 ≤ x ∧ x < xs.length then some (nx, ls, .inl (xs.getD x.toNat 0) :: r, M) else none
    | _ => none
  | _ => none
theorem sf_r_baload {i : sf_I} {pc : Nat} (hd : decode i.2.1 pc = .ok (.baload, 1)) : sf_AS i pc (sf_aBal (pc + 1)) := by
  intro g sc ls st M pc' ls' st' M' hf
  unfold sf_aBal at hf
  split at hf
  · rename_i x a r
    split at hf
    · rename_i xs ho
      split at hf
      · rename_i hh
        cases hf
        refine ⟨⟨Nat.le_refl _, Nat.le_refl _⟩, ?_⟩
        intro d p l e R s m args below meth c Q k0 k1 hC h0 h1 h2 h3 kk H locs larr hR hS hL hok
        obtain ⟨hx, hb, hml, hown, hts, ⟨hK, hKn⟩, -⟩ := hC
        have hxo : sf_oi x := hok (.inl x) List.mem_cons_self
        have hov : sf_oi (xs.getD x.toNat 0) := sf_getD_ok (sf_mem_ok hR.2.2 ho) (by omega)
        have k2 := kk H locs larr hR hS hL (fun w hw => (List.mem_cons.mp hw).elim (fun z => by rw [z]; exact hov) (fun z => hok w (List.mem_cons_of_mem _ (List.mem_cons_of_mem _ z))))
        refine va_zald (D := g.2.2.1) (cl := vwCl) (ws := sf_wld g M) (tys := sf_tys g) hx hb hK hR.2.1 a 1 (sf_wld_at ho) rfl (i := Int32.ofInt x) (sf_vpin hxo hh.1 hh.2) hd ?_
        rw [sf_clamp hxo hh.1]
        exact k2
      · cases hf
    · cases hf
  · cases hf
def sf_aBas (nx : Nat) : sf_A := fun _ ls st M => match st with
  | .inl v :: .inl x :: .inr (.inl (some a)) :: r => match M[a]? with
    | some (.inr (.inl (1, xs))) => if (0 ≤ x ∧ x < xs.length) ∧ (v = 0 ∨ v = 1) then some (nx, ls, r, M.set a (.inr (.inl (1, xs.set x.toNat v)))) else none
    | _ => none
  | _ => none
theorem sf_r_bastore {i : sf_I} {pc : Nat} (hd : decode i.2.1 pc = .ok (.bastore, 1)) : sf_AS i pc (sf_aBas (pc + 1)) := by
  intro g sc ls st M pc' ls' st' M' hf
  unfold sf_aBas at hf
  split at hf
  · rename_i v x a r
    split at hf
    · rename_i xs ho
      split at hf
      · rename_i hh
        obtain ⟨hh, hv01⟩ := hh
        cases hf
        have hs0 : sf_sz (.inr (.inl (1, xs.set x.toNat v))) = sf_sz (.inr (.inl (1, xs))) := by simp [sf_sz]
        refine ⟨⟨by rw [List.length_set]; exact Nat.le_refl _, by rw [sf_sl_set ho hs0]; exact Nat.le_refl _⟩, ?_⟩
        intro d p l e R s m args below meth c Q k0 k1 hC h0 h1 h2 h3 kk H locs larr hR hS hL hok
        obtain ⟨hx, hb, hml, hown, hts, ⟨hK, hKn⟩, -⟩ := hC
        have hvo : sf_oi v := hok (.inl v) List.mem_cons_self
        have hxo : sf_oi x := hok (.inl x) (List.mem_cons_of_mem _ List.mem_cons_self)
        refine sf_W_zast (D := g.2.2.1) (cl := vwCl) (ws := sf_wld g M) (tys := sf_tys g) hx hb hK hR.2.1 (sf_wld_D g M) hS a 1 (sf_wld_at ho) rfl (i := Int32.ofInt x) (x := Int32.ofInt v) (f1 := fun j => Int32.ofInt ((xs.set x.toNat v).getD j 0)) (sf_vpin hxo hh.1 hh.2) (by rcases hv01 with rfl | rfl <;> decide) (fun j => by rw [sf_clamp hxo hh.1]; exact sf_updD v (by omega) j) hd (fun H1 locs1 z1 P1 S1 => ?_)
        have := kk H1 locs1 larr (sf_RelSet hR ho (sf_okC_xs (k := x.toNat) (sf_mem_ok hR.2.2 ho) hvo) z1 (by simpa [sf_enc] using P1)) S1 hL (fun w hw => hok w (List.mem_cons_of_mem _ (List.mem_cons_of_mem _ (List.mem_cons_of_mem _ hw))))
        rw [List.length_set, sf_sl_set ho hs0] at this
        exact this
      · cases hf
    · cases hf
  · cases hf
def sf_aLen (nx : Nat) : sf_A := fun sc ls st M => match st with
  | .inr (.inl (some a)) :: r => match M[a]? with
    | some (.inr (.inl (t, xs))) => if xs.length ≤ 2147483647 ∧ t ≤ 1 then some (nx, ls, .inl xs.length :: r, M) else none
    | some (.inr (.inr rs)) => if rs.length ≤ 2147483647 then some (nx, ls, .inl rs.length :: r, M) else none
    | _ => none
  | .inr (.inr (.inr _)) :: r => match sc with
    | some xs => some (nx, ls, .inl xs.length :: r, M)
    | none => none
  | _ => none
theorem sf_ofNat (n : Nat) : Int32.ofNat n = Int32.ofInt (n : Int) := (Int32.ofInt_eq_ofNat).symm
theorem sf_r_alen {i : sf_I} {pc : Nat} (hd : decode i.2.1 pc = .ok (.arraylength, 1)) : sf_AS i pc (sf_aLen (pc + 1)) := by
  intro g sc ls st M pc' ls' st' M' hf
  unfold sf_aLen at hf
  split at hf
  · rename_i a r
    split at hf
    · rename_i t xs ho
      split at hf
      · rename_i hh
        cases hf
        refine ⟨⟨Nat.le_refl _, Nat.le_refl _⟩, ?_⟩
        intro d p l e R s m args below meth c Q k0 k1 hC h0 h1 h2 h3 kk H locs larr hR hS hL hok
        obtain ⟨hx, hb, hml, hown, hts, ⟨hK, hKn⟩, -⟩ := hC
        have k2 := kk H locs larr hR hS hL (fun w hw => (List.mem_cons.mp hw).elim (fun z => by rw [z]; exact ⟨by omega, by omega⟩) (fun z => hok w (List.mem_cons_of_mem _ z)))
        have ht : ∃ ty, (sf_tys g)[t]? = some (g.2.2.2 t, ty) := by
          rcases (show t = 0 ∨ t = 1 by omega) with rfl | rfl
          · exact ⟨.int, rfl⟩
          · exact ⟨.boolean, rfl⟩
        obtain ⟨ty, hty⟩ := ht
        exact va_alen (D := g.2.2.1) (cl := vwCl) (ws := sf_wld g M) (tys := sf_tys g) hx hb hK hR.2.1 a t (sf_wld_at ho) hty (sf_ofNat _) hd k2
      · cases hf
    · rename_i rs ho
      split at hf
      · rename_i hh
        cases hf
        refine ⟨⟨Nat.le_refl _, Nat.le_refl _⟩, ?_⟩
        intro d p l e R s m args below meth c Q k0 k1 hC h0 h1 h2 h3 kk H locs larr hR hS hL hok
        obtain ⟨hx, hb, hml, hown, hts, ⟨hK, hKn⟩, -⟩ := hC
        have k2 := kk H locs larr hR hS hL (fun w hw => (List.mem_cons.mp hw).elim (fun z => by rw [z]; exact ⟨by omega, by omega⟩) (fun z => hok w (List.mem_cons_of_mem _ z)))
        exact va_alen (D := g.2.2.1) (cl := vwCl) (ws := sf_wld g M) (tys := sf_tys g) hx hb hK hR.2.1 a 2 (sf_wld_at ho) rfl (sf_ofNat _) hd k2
      · cases hf
    · cases hf
  · rename_i u r
    split at hf
    · rename_i xs
      cases hf
      refine ⟨⟨Nat.le_refl _, Nat.le_refl _⟩, ?_⟩
      intro d p l e R s m args below meth c Q k0 k1 hC h0 h1 h2 h3 kk H locs larr hR hS hL hok
      obtain ⟨hx, hb, hml, hown, hts, ⟨hK, hKn⟩, -, -, -, -, hsc⟩ := hC
      obtain ⟨hX, hbl, hbb, hlen, hall⟩ := hsc xs rfl
      have k2 := kk H locs larr hR hS hL (fun w hw => (List.mem_cons.mp hw).elim (fun z => by rw [z]; exact ⟨by omega, by omega⟩) (fun z => hok w (List.mem_cons_of_mem _ z)))
      refine va_slen (A := fun q => g.1 ≤ q) hx hb hX hbl (by omega) hS hd ?_
      rw [sf_ofNat]
      exact k2
    · cases hf
  · cases hf
def sf_aAal (nx : Nat) : sf_A := fun _ ls st M => match st with
  | .inl x :: .inr (.inl (some a)) :: r => match M[a]? with
    | some (.inr (.inr rs)) => if 0 ≤ x ∧ x < rs.length then some (nx, ls, .inr (.inl (rs.getD x.toNat none)) :: r, M) else none
    | _ => none
  | _ => none
theorem sf_r_aaload {i : sf_I} {pc : Nat} (hd : decode i.2.1 pc = .ok (.aaload, 1)) : sf_AS i pc (sf_aAal (pc + 1)) := by
  intro g sc ls st M pc' ls' st' M' hf
  unfold sf_aAal at hf
  split at hf
  · rename_i x a r
    split at hf
    · rename_i rs ho
      split at hf
      · rename_i hh
        cases hf
        refine ⟨⟨Nat.le_refl _, Nat.le_refl _⟩, ?_⟩
        intro d p l e R s m args below meth c Q k0 k1 hC h0 h1 h2 h3 kk H locs larr hR hS hL hok
        obtain ⟨hx, hb, hml, hown, hts, ⟨hK, hKn⟩, -⟩ := hC
        have hxo : sf_oi x := hok (.inl x) List.mem_cons_self
        have k2 := kk H locs larr hR hS hL (fun w hw => (List.mem_cons.mp hw).elim (fun z => by rw [z]; exact trivial) (fun z => hok w (List.mem_cons_of_mem _ (List.mem_cons_of_mem _ z))))
        refine va_aldq (D := g.2.2.1) (cl := vwCl) (ws := sf_wld g M) (tys := sf_tys g) hx hb hK hR.2.1 a 2 (sf_wld_at ho) rfl (i := Int32.ofInt x) (sf_vpin hxo hh.1 hh.2) hd ?_
        rw [sf_clamp hxo hh.1]
        cases hq : rs.getD x.toNat none with
        | none => rw [hq] at k2; exact k2
        | some z => rw [hq] at k2; exact k2
      · cases hf
    · cases hf
  · cases hf
def sf_aAas (nx : Nat) : sf_A := fun _ ls st M => match st with
  | .inr (.inl (some v)) :: .inl x :: .inr (.inl (some a)) :: r => match M[a]?, M[v]? with
    | some (.inr (.inr rs)), some (.inl o) => if (0 ≤ x ∧ x < rs.length) ∧ o.1 = 9 then some (nx, ls, r, M.set a (.inr (.inr (rs.set x.toNat (some v))))) else none
    | _, _ => none
  | _ => none
theorem sf_r_aastore {i : sf_I} {pc : Nat} (hd : decode i.2.1 pc = .ok (.aastore, 1)) : sf_AS i pc (sf_aAas (pc + 1)) := by
  intro g sc ls st M pc' ls' st' M' hf
  unfold sf_aAas at hf
  split at hf
  · rename_i v x a r
    split at hf
    · rename_i rs o ho hv
      split at hf
      · rename_i hh
        obtain ⟨hh, h9⟩ := hh
        cases hf
        have hs0 : sf_sz (.inr (.inr (rs.set x.toNat (some v)))) = sf_sz (.inr (.inr rs)) := by simp [sf_sz]
        refine ⟨⟨by rw [List.length_set]; exact Nat.le_refl _, by rw [sf_sl_set ho hs0]; exact Nat.le_refl _⟩, ?_⟩
        intro d p l e R s m args below meth c Q k0 k1 hC h0 h1 h2 h3 kk H locs larr hR hS hL hok
        obtain ⟨hx, hb, hml, hown, hts, ⟨hK, hKn⟩, -⟩ := hC
        have hxo : sf_oi x := hok (.inl x) (List.mem_cons_of_mem _ List.mem_cons_self)
        have hv2 := sf_wld_at (g := g) hv
        have hv3 : (sf_wld g M)[v]? = some (g.1 + v, .inr (9, o.2.map (sf_cv g))) := by rw [hv2, ← h9]; rfl
        refine sf_W_astq (D := g.2.2.1) (cl := vwCl) (ws := sf_wld g M) (tys := sf_tys g) hx hb hK hR.2.1 (sf_wld_D g M) hS a 2 v 9 (r := (RX9, TX9, 6)) (sf_wld_at ho) rfl hv3 rfl (i := Int32.ofInt x) (f1 := fun j => ((rs.set x.toNat (some v)).getD j none).map (fun a => g.1 + a)) (sf_vpin hxo hh.1 hh.2) (fun j => by
          rw [sf_clamp hxo hh.1]
          have hn : x.toNat < rs.length := by omega
          by_cases hj : j = x.toNat
          · subst hj; simp [List.getD, hn]
          · simp [List.getD, hj, List.getElem?_set_ne (fun z => hj z.symm)]) hd (fun H1 locs1 z1 P1 S1 => ?_)
        have := kk H1 locs1 larr (sf_RelSet hR ho (show sf_okC (.inr (.inr (rs.set x.toNat (some v)))) from trivial) z1 (by simpa [sf_enc] using P1)) S1 hL (fun w hw => hok w (List.mem_cons_of_mem _ (List.mem_cons_of_mem _ (List.mem_cons_of_mem _ hw))))
        rw [List.length_set, sf_sl_set ho hs0] at this
        exact this
      · cases hf
    · cases hf
  · cases hf
theorem sf_RelApp {g : sf_G} {M : sf_M} {H H1 : Heap} {e : sf_C} (hR : sf_Rel g M H) (he : sf_okC e) (hz : H1.size = H.size + 1) (hP : va_P g.2.2.1 vwCl (sf_wld g M ++ [(H.size, sf_enc g e)]) H1) : sf_Rel g (M ++ [e]) H1 :=
  ⟨by rw [hz, hR.1, List.length_append]; rfl, by rw [sf_wld_app, ← hR.1]; exact hP, sf_okC_app hR.2.2 he⟩
def sf_aNew (ci : Nat) (fs : List sf_V) (nx : Nat) : sf_A := fun _ ls st M => some (nx, ls, .inr (.inl (some M.length)) :: st, M ++ [.inl (ci, fs)])
theorem sf_r_new {i : sf_I} {pc ci N index : Nat} {C : String} {T : u_T} {ty0 : Nat → FieldType} {fs : List sf_V} (hd : decode i.2.1 pc = .ok (.new index, 3)) (hc : vwCl[ci]? = some (C, T, N)) (hin : ∀ w ∈ u_ws C T N, w ∈ sf_tb) (hty : ∀ k, k < N → parseFieldDescriptor (T k).2.2.1 = some (ty0 k)) (hl : Cond.classLink i.1.cls index C ∈ sf_tb) (h1 : Cond.instantiable C N ∈ sf_tb) (h2 : Cond.initialized C ∈ sf_tb) (hN : fs.length = N) (hfs : ∀ g : sf_G, ∀ j, j < N → defaultValue (ty0 j) = vp_V (fs.map (sf_cv g)) j) (hok0 : ∀ v ∈ fs, sf_ok v) : sf_AS i pc (sf_aNew ci fs (pc + 3)) := by
  intro g sc ls st M pc' ls' st' M' hf
  cases hf
  refine ⟨⟨by simp, by rw [sf_sl_app]; omega⟩, ?_⟩
  intro d p l e R s m args below meth c Q k0 k1 hC h0 h1' h2' h3 kk H locs larr hR hS hL hok
  obtain ⟨hx, hb, hml, hown, hts, ⟨hK, hKn⟩, -⟩ := hC
  have e1 : (M ++ [(.inl (ci, fs) : sf_C)]).length - k0 = M.length - k0 + 1 := by simp; omega
  have e2 : sf_sl (M ++ [(.inl (ci, fs) : sf_C)]) - k1 = sf_sl M - k1 + N := by rw [sf_sl_app]; simp [sf_sz]; omega
  rw [e1] at h2'
  rw [e2] at h3
  refine sf_W_new (D := g.2.2.1) (cl := vwCl) (ws := sf_wld g M) (tys := sf_tys g) hx hb hts hin ty0 hty hown (hts _ hl) (hts _ h1) (hts _ h2) hK hR.2.1 hS hc (hfs g) h2' h3 hd (fun H1 z1 P1 S1 => ?_)
  have := kk H1 locs larr (sf_RelApp hR (show sf_okC (.inl (ci, fs)) from hok0) z1 P1) S1 hL (fun w hw => (List.mem_cons.mp hw).elim (fun z => by rw [z]; exact trivial) (hok w))
  rw [e1, e2] at this
  have e3 : sf_cv g (.inr (.inl (some M.length))) = .ref H.size := by rw [hR.1]; rfl
  rw [List.map_cons, e3] at this
  exact this
def sf_aNwa (t nx : Nat) : sf_A := fun _ ls st M => match st with
  | .inl n :: r => if 0 ≤ n ∧ n ≤ 100000 then some (nx, ls, .inr (.inl (some M.length)) :: r, M ++ [.inr (.inl (t, List.replicate n.toNat 0))]) else none
  | _ => none
theorem sf_r_newa {i : sf_I} {pc t : Nat} {at0 : ArrayType} (hd : decode i.2.1 pc = .ok (.newarray at0, 2)) (hw : Cond.arrayClass (newarray.typeOf at0) ∈ sf_tb) (ht : (at0 = .int ∧ t = 0) ∨ (at0 = .boolean ∧ t = 1)) : sf_AS i pc (sf_aNwa t (pc + 2)) := by
  intro g sc ls st M pc' ls' st' M' hf
  unfold sf_aNwa at hf
  split at hf
  · rename_i n r
    split at hf
    · rename_i hh
      cases hf
      refine ⟨⟨by simp, by rw [sf_sl_app]; omega⟩, ?_⟩
      intro d p l e R s m args below meth c Q k0 k1 hC h0 h1' h2' h3 kk H locs larr hR hS hL hok
      obtain ⟨hx, hb, hml, hown, hts, ⟨hK, hKn⟩, -⟩ := hC
      have hno : sf_oi n := hok (.inl n) List.mem_cons_self
      have e1 : (M ++ [(.inr (.inl (t, List.replicate n.toNat 0)) : sf_C)]).length - k0 = M.length - k0 + 1 := by simp; omega
      have e2 : sf_sl (M ++ [(.inr (.inl (t, List.replicate n.toNat 0)) : sf_C)]) - k1 = sf_sl M - k1 + n.toNat := by rw [sf_sl_app]; simp [sf_sz]; omega
      rw [e1] at h2'
      rw [e2] at h3
      have hcb : componentBytes (newarray.typeOf at0) ≤ 8 := by rcases ht with ⟨rfl, -⟩ | ⟨rfl, -⟩ <;> decide
      have hbytes : n.toNat * componentBytes (newarray.typeOf at0) ≤ 536870912 := Nat.le_trans (Nat.mul_le_mul (show n.toNat ≤ 100000 by omega) hcb) (by decide)
      have hz : ∀ j : Nat, (List.replicate n.toNat (0 : Int)).getD j 0 = 0 := fun j => by simp [List.getD, List.getElem?_replicate]; split <;> rfl
      have hty : (sf_tys g)[t]? = some (g.2.2.2 t, newarray.typeOf at0) := by rcases ht with ⟨rfl, rfl⟩ | ⟨rfl, rfl⟩ <;> rfl
      refine sf_W_newa (D := g.2.2.1) (cl := vwCl) (ws := sf_wld g M) (tys := sf_tys g) hx hb (hts _ hw) hK hR.2.1 hS hty (by rcases ht with ⟨rfl, rfl⟩ | ⟨rfl, rfl⟩ <;> exact fun h => h) (n := Int32.ofInt n) (N' := n.toNat) (a0 := (n.toNat, .inl (fun j => Int32.ofInt ((List.replicate n.toNat (0 : Int)).getD j 0)))) (fun cA => by rw [vp_cell_i]; congr 1; funext j; rw [hz]; rcases ht with ⟨rfl, rfl⟩ | ⟨rfl, rfl⟩ <;> rfl) (by rw [show (0 : Int32) = Int32.ofInt 0 from rfl, sf_lt32 hno sf_oi0]; omega) (sf_clamp hno hh.1) hbytes h2' h3 hd (fun H1 z1 P1 S1 => ?_)
      have := kk H1 locs larr (sf_RelApp (e := .inr (.inl (t, List.replicate n.toNat 0))) hR (fun x hx => by rw [List.eq_of_mem_replicate hx]; exact sf_oi0) z1 (by simpa [sf_enc] using P1)) S1 hL (fun w hw => (List.mem_cons.mp hw).elim (fun z => by rw [z]; exact trivial) (fun z => hok w (List.mem_cons_of_mem _ z)))
      rw [e1, e2] at this
      have e3 : sf_cv g (.inr (.inl (some M.length))) = .ref H.size := by rw [hR.1]; rfl
      rw [List.map_cons, e3] at this
      exact this
    · cases hf
  · cases hf
def sf_aNwq (nx : Nat) : sf_A := fun _ ls st M => match st with
  | .inl n :: r => if 0 ≤ n ∧ n ≤ 100000 then some (nx, ls, .inr (.inl (some M.length)) :: r, M ++ [.inr (.inr (List.replicate n.toNat none))]) else none
  | _ => none
theorem sf_r_newq {i : sf_I} {pc index : Nat} (hd : decode i.2.1 pc = .ok (.anewarray index, 3)) (hl : Cond.classLink i.1.cls index "StoveFavours$Stove" ∈ sf_tb) : sf_AS i pc (sf_aNwq (pc + 3)) := by
  intro g sc ls st M pc' ls' st' M' hf
  unfold sf_aNwq at hf
  split at hf
  · rename_i n r
    split at hf
    · rename_i hh
      cases hf
      refine ⟨⟨by simp, by rw [sf_sl_app]; omega⟩, ?_⟩
      intro d p l e R s m args below meth c Q k0 k1 hC h0 h1' h2' h3 kk H locs larr hR hS hL hok
      obtain ⟨hx, hb, hml, hown, hts, ⟨hK, hKn⟩, -⟩ := hC
      have hno : sf_oi n := hok (.inl n) List.mem_cons_self
      have e1 : (M ++ [(.inr (.inr (List.replicate n.toNat none)) : sf_C)]).length - k0 = M.length - k0 + 1 := by simp; omega
      have e2 : sf_sl (M ++ [(.inr (.inr (List.replicate n.toNat none)) : sf_C)]) - k1 = sf_sl M - k1 + n.toNat := by rw [sf_sl_app]; simp [sf_sz]; omega
      rw [e1] at h2'
      rw [e2] at h3
      have hz : (fun j : Nat => ((List.replicate n.toNat (none : Option Nat)).getD j none).map (fun a => g.1 + a)) = fun _ => none := by
        funext j
        have : (List.replicate n.toNat (none : Option Nat)).getD j none = none := by simp [List.getD, List.getElem?_replicate]; split <;> rfl
        rw [this]; rfl
      refine sf_W_newq (D := g.2.2.1) (cl := vwCl) (ws := sf_wld g M) (tys := sf_tys g) hx hb hown (hts _ hl) hKn.2.use hK hR.2.1 hS (t0 := 2) rfl (n := Int32.ofInt n) (N' := n.toNat) (by rw [show (0 : Int32) = Int32.ofInt 0 from rfl, sf_lt32 hno sf_oi0]; omega) (sf_clamp hno hh.1) (by omega) h2' h3 hd (fun H1 z1 P1 S1 => ?_)
      have := kk H1 locs larr (sf_RelApp (e := .inr (.inr (List.replicate n.toNat none))) hR trivial z1 (by
        show va_P _ _ (sf_wld g M ++ [(H.size, .inl (g.2.2.2 2, (List.replicate n.toNat (none : Option Nat)).length, .inr (.inr (.inr (.inr (fun j : Nat => ((List.replicate n.toNat (none : Option Nat)).getD j none).map (fun a => g.1 + a)))))))]) H1
        rw [hz, List.length_replicate]
        exact P1)) S1 hL (fun w hw => (List.mem_cons.mp hw).elim (fun z => by rw [z]; exact trivial) (fun z => hok w (List.mem_cons_of_mem _ z)))
      rw [e1, e2] at this
      have e3 : sf_cv g (.inr (.inl (some M.length))) = .ref H.size := by rw [hR.1]; rfl
      rw [List.map_cons, e3] at this
      exact this
    · cases hf
  · cases hf
