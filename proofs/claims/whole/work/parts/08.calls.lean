/-! calls, returns, and the interpreter -/
/-- a call's receiver: 0 none is asked, 1 a reference (a constructor), n + 2 an object of class n -/
def sf_rck (rc : Nat) (as : List sf_V) (M : sf_M) : Bool := match rc with
  | 0 => true
  | 1 => match as with
    | .inr (.inl (some _)) :: _ => true
    | _ => false
  | n + 2 => match as with
    | .inr (.inl (some a)) :: _ => match M[a]? with
      | some (.inl o) => Nat.beq o.1 n
      | _ => false
    | _ => false
/-- what is returned: 0 nothing, 1 an int, 2 a boolean, 3 a reference -/
def sf_rt (kind : Nat) (st : List sf_V) : Option (Option sf_V) := match kind, st with
  | 0, [] => some none
  | 1, [.inl x] => some (some (.inl x))
  | 2, [.inl x] => if x = 0 ∨ x = 1 then some (some (.inl x)) else none
  | 3, [.inr (.inl (some a))] => some (some (.inr (.inl (some a))))
  | _, _ => none
def sf_ent (nL : Nat) (as : List sf_V) : sf_L := as.map some ++ List.replicate (nL - as.length) none
def sf_ex (act : Nat → Nat → Option sf_Act) (nl : Nat → Nat) : Nat → Nat → Option (List Int) → Nat → Nat → sf_L → List sf_V → sf_M → Option (Option sf_V × sf_M)
  | 0, _, _, _, _, _, _, _ => none
  | n + 1, d, sc, y, pc, ls, st, M => match act y pc with
    | some (.inl f) => match f sc ls st M with
      | some q => sf_ex act nl n d sc y q.1 q.2.1 q.2.2.1 q.2.2.2
      | none => none
    | some (.inr (.inl q)) => if (q.2.1 ≤ st.length ∧ st.length - q.2.1 ≤ 4 ∧ q.2.1 ≤ nl q.1) ∧ sf_rck q.2.2.2 (st.take q.2.1).reverse M = true ∧ (st.take q.2.1).all sf_c1 = true then match d with
      | 0 => none
      | d' + 1 => match sf_ex act nl n d' none q.1 0 (sf_ent (nl q.1) (st.take q.2.1).reverse) [] M with
        | some z => sf_ex act nl n (d' + 1) sc y q.2.2.1 ls (z.1.toList ++ st.drop q.2.1) z.2
        | none => none
      else none
    | some (.inr (.inr kind)) => match sf_rt kind st with
      | some r => some (r, M)
      | none => none
    | none => none
def sf_U (g : sf_G) (M : sf_M) (U : State) : Prop := sf_Rel g M U.heap ∧ sf_KK g.2.2.1 (sf_tys g) U ∧ g.1 ≤ U.heap.size
def sf_Qc (g : sf_G) (r : Option sf_V) (M : sf_M) : Array Value → State → Outcome → State → Prop := fun _ st o t => (o = .returned (r.map (sf_cv g)) ∧ (∀ v, r = some v → sf_ok v) ∧ sf_U g M t) ∧ va_F (fun q => g.1 ≤ q) st t
def sf_ws (j : sf_I) : List Cond := Cond.code j.1 j.2.1 j.2.2.1 j.2.2.2 :: sf_tb
def sf_rm (d mc ms : Nat) : Room := { frames := d + 1, cells := mc, slots := ms, locals := 40 * (d + 1) }
def sf_Met (l : Launch) (g : sf_G) (j : sf_I) (d : Nat) (as : List sf_V) (M : sf_M) (r : Option sf_V) (M1 : sf_M) : Prop :=
  Met l j.1 (sf_ws j) (sf_rm d (M1.length - M.length) (sf_sl M1 - sf_sl M)) (va_Pc (as.map (sf_cv g)) (sf_U g M)) (sf_Qc g r M1) (M1.length - M.length) (sf_sl M1 - sf_sl M) (fun q => g.1 ≤ q)
def sf_CS (i : sf_I) (pc : Nat) (j : sf_I) (k pc' rc : Nat) : Prop := ∀ (g : sf_G) (sc : Option (List Int)) (d : Nat) (p : Program) (l : Launch) (e : Env) (R : Room) (s : State) (m : MethodId) (args : Array Value) (below : List Frame) (meth : Method) (c : Code) (Q : State → Prop) (k0 k1 : Nat) (ls : sf_L) (st : List sf_V) (M : sf_M) (r : Option sf_V) (M1 : sf_M),
  sf_Cx g sc i (d + 1) p R s m args meth c → k0 ≤ M.length → k1 ≤ sf_sl M → M.length ≤ M1.length → sf_sl M ≤ sf_sl M1 → M1.length - k0 ≤ R.cells → sf_sl M1 - k1 ≤ R.slots → k ≤ st.length → st.length - k ≤ 4 → k ≤ j.2.2.1 → sf_rck rc (st.take k).reverse M = true → sf_Met l g j d (st.take k).reverse M r M1 →
    sf_At g i.2.2.1 p l e R s m args below meth c Q k0 k1 pc' ls (r.toList ++ st.drop k) M1 → sf_At g i.2.2.1 p l e R s m args below meth c Q k0 k1 pc ls st M
section SFC
variable {p : Program} {l : Launch} {e : Env} {R : Room} {s : State} {m : MethodId} {args : Array Value} {below : List Frame} {meth : Method} {c : Code} {H : Heap} {locs : List Loc} {cells slots : Nat} {Q : State → Prop}
variable {pc : Nat} {ls : Array Slot} {rest st0 : List Value} {a : Array Value} {mc ms : Nat}
theorem sf_W_call {g : sf_G} {r : Option sf_V} {M1 : sf_M} (hr : va_Run p l e R s m args below meth c H locs cells slots mc ms (F0 m pc ls st0) rest (sf_Qc g r M1 a) (fun q => g.1 ≤ q)) (hS : va_S (fun q => g.1 ≤ q) s.heap H locs)
    (kk : ∀ (H1 : Heap) (locs1 : List Loc), sf_Rel g M1 H1 → (∀ v, r = some v → sf_ok v) → va_S (fun q => g.1 ≤ q) s.heap H1 locs1 → W p l e R s m args below meth c H1 locs1 (cells + mc) (slots + ms) Q (F0 m (pc + 3) ls ((r.map (sf_cv g)).toList ++ rest))) : W p l e R s m args below meth c H locs cells slots Q (F0 m pc ls st0) := by
  intro T hT X
  obtain ⟨v, st₀, t, T', L, h0, X', hL, e1, e2, ⟨⟨hv, hok, hu⟩, hz, hk⟩, st⟩ := hr T hT X
  have hv : v = r.map (sf_cv g) := Outcome.returned.inj hv
  subst hv
  rw [h0] at hz hk
  obtain ⟨t2, a1, b1⟩ := kk T'.heap (locs ++ L) (by rw [e1]; exact hu.1) hok
    ⟨Nat.le_trans hS.1 (by rw [e1]; exact hz), fun q h1 h2 => by rw [e1, hk q (Nat.lt_of_lt_of_le h1 hS.1) h2]; exact hS.2.1 q h1 h2, fun q hq => by
      rcases List.mem_append.mp hq with h | h
      · exact hS.2.2 q h
      · exact hL q h⟩ T' rfl X'
  exact ⟨t2, st t2 a1, b1⟩
end SFC
theorem sf_blind (as : List Value) (g : sf_G) (M : sf_M) : FrameBlind (va_Pc as (sf_U g M)) := fun a U g2 mk q => ⟨q.1, q.2.1, sf_KK.same (u := U) (U := U.calling g2 mk a) rfl q.2.2.1, q.2.2.2⟩
theorem sf_cats (g : sf_G) : ∀ (st : List sf_V), ((st.map (sf_cv g)).map fun v => v.category).sum ≤ 2 * st.length
  | [] => by simp
  | v :: t => by
    have h1 := sf_cats g t
    have h2 := lv_cat (sf_cv g v)
    simp only [List.map_cons, List.sum_cons, List.length_cons]
    omega
theorem sf_goodT (j : sf_I) (hj : Cond.code j.1 j.2.1 j.2.2.1 j.2.2.2 ∈ sf_tb) (hg : GoodIn sf_tb sf_tb) : GoodIn sf_tb (sf_ws j) := by
  intro w hw
  rcases List.mem_cons.mp hw with h | h
  · rw [h]; exact hg _ hj
  · exact hg _ h
/-- what every method of the system gives its callers -/
def sf_JW (j : sf_I) (n : Nat) : Prop := Cond.code j.1 j.2.1 j.2.2.1 j.2.2.2 ∈ sf_tb ∧ Cond.initialized j.1.cls ∈ sf_tb ∧ (j.1.cls ≠ "java/lang/invoke/MethodHandle" ∧ j.1.cls ≠ "java/lang/invoke/VarHandle" ∧ (parseMethodDescriptor j.1.desc).map (fun d => d.parameters.length) = some n) ∧ j.2.2.1 ≤ 20
theorem sf_takeS {st : List sf_V} {k : Nat} (hk : k ≤ st.length) {g : sf_G} : st.map (sf_cv g) = ((st.take k).reverse.map (sf_cv g)).reverse ++ (st.drop k).map (sf_cv g) := by
  rw [← List.map_reverse, List.reverse_reverse, ← List.map_append, List.take_append_drop]
theorem sf_backMap {g : sf_G} {r : Option sf_V} {st : List sf_V} : (r.toList ++ st).map (sf_cv g) = (r.map (sf_cv g)).toList ++ st.map (sf_cv g) := by
  cases r <;> simp
theorem sf_afterok {r : Option sf_V} {st : List sf_V} {k : Nat} (h1 : ∀ v, r = some v → sf_ok v) (h2 : ∀ v ∈ st, sf_ok v) : ∀ v ∈ r.toList ++ st.drop k, sf_ok v := by
  intro v hv
  rcases List.mem_append.mp hv with h | h
  · exact h1 v (by cases r with
      | none => simp at h
      | some z => simp at h; rw [h])
  · exact h2 v (List.mem_of_mem_drop h)
theorem sf_c_static {i j : sf_I} {pc index k : Nat} (hd : decode i.2.1 pc = .ok (.invokestatic index, 3)) (hJ : sf_JW j k) (hs : Cond.static j.1 ∈ sf_tb) (hl : Cond.methodLink i.1.cls index j.1 ∈ sf_tb) (hg : GoodIn sf_tb sf_tb) : sf_CS i pc j k (pc + 3) 0 := by
  intro g sc d p l e R s m args below meth c Q k0 k1 ls st M r M1 hC h0 h1 h2 h3 h4 h5 hk hk4 hkn hrc hM kk H locs larr hR hS hL hok
  obtain ⟨hx, hb, hml, hown, hts, ⟨hK, hKn⟩, hbs, hfr, hlo, -, -⟩ := hC
  obtain ⟨j1, j2, j3, j4⟩ := hJ
  have hcat : 2 * (F0 m pc larr (st.map (sf_cv g))).monitorRoom + (((st.drop k).map (sf_cv g)).map fun v => v.category).sum ≤ 8 := by
    have := sf_cats g (st.drop k)
    rw [List.length_drop] at this
    exact lv_room (by omega)
  have cw := callB_of (R := R) (own := i.1.cls) (index := index) (mc := M1.length - M.length) (ms := sf_sl M1 - sf_sl M) (rm := sf_rm d (M1.length - M.length) (sf_sl M1 - sf_sl M)) k hts (sf_goodT j j1 hg) rfl rfl rfl (hts _ j2) (hts _ hl) j3 ⟨by show d + 1 + 1 ≤ R.frames; omega, by show 8 + (j.2.2.1 + 11) + 40 * (d + 1) ≤ R.locals; omega⟩
  refine sf_W_call (g := g) (r := r) (M1 := M1) (va_runS (As := (st.take k).reverse.map (sf_cv g)) (rest := (st.drop k).map (sf_cv g)) ⟨hx, hb, hml, hown, hts⟩ hM ⟨cw, hts _ hs⟩ ⟨sf_blind _ g M, fun U hU hW => ⟨rfl, by rw [hU]; exact hR, sf_KK.moved hW ⟨hK, hKn⟩, by rw [hU, hR.1]; omega⟩⟩ rfl (by simp; omega) (by show larr.size = _; exact hL.1) (sf_takeS hk) hcat hd ⟨by omega, by omega⟩) hS (fun H1 locs1 q1 q2 q3 => ?_)
  have := kk H1 locs1 larr q1 q3 hL (sf_afterok q2 hok)
  rw [sf_backMap, show M1.length - k0 = M.length - k0 + (M1.length - M.length) by omega, show sf_sl M1 - k1 = sf_sl M - k1 + (sf_sl M1 - sf_sl M) by omega] at this
  exact this
theorem sf_c_virtual {i j : sf_I} {pc index k n N : Nat} {C : String} {T : u_T} (hd : decode i.2.1 pc = .ok (.invokevirtual index, 3)) (hJ : sf_JW j k) (hc : vwCl[n]? = some (C, T, N)) (hcl : j.1.cls = C) (hi : Cond.instanceMethod j.1 ∈ sf_tb) (hsel : Cond.selects C j.1 j.1 ∈ sf_tb) (hl : Cond.methodLink i.1.cls index j.1 ∈ sf_tb) (hg : GoodIn sf_tb sf_tb) : sf_CS i pc j (k + 1) (pc + 3) (n + 2) := by
  intro g sc d p l e R s m args below meth c Q k0 k1 ls st M r M1 hC h0 h1 h2 h3 h4 h5 hk hk4 hkn hrc hM kk H locs larr hR hS hL hok
  obtain ⟨hx, hb, hml, hown, hts, ⟨hK, hKn⟩, hbs, hfr, hlo, -, -⟩ := hC
  obtain ⟨j1, j2, j3, j4⟩ := hJ
  have hcat : 2 * (F0 m pc larr (st.map (sf_cv g))).monitorRoom + (((st.drop (k + 1)).map (sf_cv g)).map fun v => v.category).sum ≤ 8 := by
    have := sf_cats g (st.drop (k + 1))
    rw [List.length_drop] at this
    exact lv_room (by omega)
  have cw := callB_of (R := R) (own := i.1.cls) (index := index) (mc := M1.length - M.length) (ms := sf_sl M1 - sf_sl M) (rm := sf_rm d (M1.length - M.length) (sf_sl M1 - sf_sl M)) k hts (sf_goodT j j1 hg) rfl rfl rfl (hts _ j2) (hts _ hl) j3 ⟨by show d + 1 + 1 ≤ R.frames; omega, by show 8 + (j.2.2.1 + 11) + 40 * (d + 1) ≤ R.locals; omega⟩
  unfold sf_rck at hrc
  dsimp only at hrc
  split at hrc
  · rename_i a as ha
    split at hrc
    · rename_i o ho
      have ho1 : o.1 = n := Nat.eq_of_beq_eq_true hrc
      have hstk : st.map (sf_cv g) = (as.map (sf_cv g)).reverse ++ .ref (g.1 + a) :: (st.drop (k + 1)).map (sf_cv g) := by
        rw [sf_takeS (g := g) hk, ha]
        simp [sf_cv]
      have hasl : as.length = k := by
        have := congrArg List.length ha
        simp at this
        omega
      have hrec := va_recv (q0 := a) (ci := n) (q := (C, T, N)) (fs := o.2.map (sf_cv g)) hK hR.2.1 hc (by rw [sf_wld_at ho]; show some (g.1 + a, Sum.inr (o.1, _)) = _; rw [ho1])
      rw [ha] at hM
      refine sf_W_call (g := g) (r := r) (M1 := M1) (va_runV (C := C) (b := g.1 + a) (As := as.map (sf_cv g)) (rest := (st.drop (k + 1)).map (sf_cv g)) ⟨hx, hb, hml, hown, hts⟩ hM ⟨cw, hts _ hi, hts _ hsel⟩ ⟨sf_blind _ g M, hrec, fun U hU hW => ⟨rfl, by rw [hU]; exact hR, sf_KK.moved hW ⟨hK, hKn⟩, by rw [hU, hR.1]; omega⟩⟩ rfl (by simp [hasl]) (by show larr.size = _; exact hL.1) hstk hcat hd ⟨by omega, by omega⟩) hS (fun H1 locs1 q1 q2 q3 => ?_)
      have := kk H1 locs1 larr q1 q3 hL (sf_afterok q2 hok)
      rw [sf_backMap, show M1.length - k0 = M.length - k0 + (M1.length - M.length) by omega, show sf_sl M1 - k1 = sf_sl M - k1 + (sf_sl M1 - sf_sl M) by omega] at this
      exact this
    · cases hrc
  · cases hrc
theorem sf_c_init {i j : sf_I} {pc index k : Nat} (hd : decode i.2.1 pc = .ok (.invokespecial index, 3)) (hJ : sf_JW j k) (hr0 : j.2.2.2 = none) (hnm : j.1.name = "<init>") (hi : Cond.instanceMethod j.1 ∈ sf_tb) (hl : Cond.methodLink i.1.cls index j.1 ∈ sf_tb) (hg : GoodIn sf_tb sf_tb) : sf_CS i pc j (k + 1) (pc + 3) 1 := by
  intro g sc d p l e R s m args below meth c Q k0 k1 ls st M r M1 hC h0 h1 h2 h3 h4 h5 hk hk4 hkn hrc hM kk H locs larr hR hS hL hok
  obtain ⟨hx, hb, hml, hown, hts, ⟨hK, hKn⟩, hbs, hfr, hlo, -, -⟩ := hC
  obtain ⟨j1, j2, j3, j4⟩ := hJ
  have hcat : 2 * (F0 m pc larr (st.map (sf_cv g))).monitorRoom + (((st.drop (k + 1)).map (sf_cv g)).map fun v => v.category).sum ≤ 8 := by
    have := sf_cats g (st.drop (k + 1))
    rw [List.length_drop] at this
    exact lv_room (by omega)
  have cw := callB_of (R := R) (ret := j.2.2.2) (own := i.1.cls) (index := index) (mc := M1.length - M.length) (ms := sf_sl M1 - sf_sl M) (rm := sf_rm d (M1.length - M.length) (sf_sl M1 - sf_sl M)) k hts (sf_goodT j j1 hg) rfl rfl rfl (hts _ j2) (hts _ hl) j3 ⟨by show d + 1 + 1 ≤ R.frames; omega, by show 8 + (j.2.2.1 + 11) + 40 * (d + 1) ≤ R.locals; omega⟩
  rw [hr0] at cw
  unfold sf_rck at hrc
  dsimp only at hrc
  split at hrc
  · rename_i a as ha
    have hstk : st.map (sf_cv g) = (as.map (sf_cv g)).reverse ++ .ref (g.1 + a) :: (st.drop (k + 1)).map (sf_cv g) := by
      rw [sf_takeS (g := g) hk, ha]
      simp [sf_cv]
    have hasl : as.length = k := by
      have := congrArg List.length ha
      simp at this
      omega
    rw [ha] at hM
    refine sf_W_call (g := g) (r := r) (M1 := M1) (va_runI (b := g.1 + a) (As := as.map (sf_cv g)) (rest := (st.drop (k + 1)).map (sf_cv g)) ⟨hx, hb, hml, hown, hts⟩ hM ⟨cw, hnm, hts _ hi⟩ ⟨sf_blind _ g M, fun U hU hW => ⟨rfl, by rw [hU]; exact hR, sf_KK.moved hW ⟨hK, hKn⟩, by rw [hU, hR.1]; omega⟩⟩ rfl (by simp [hasl]) (by show larr.size = _; exact hL.1) hstk hcat hd ⟨by omega, by omega⟩) hS (fun H1 locs1 q1 q2 q3 => ?_)
    have := kk H1 locs1 larr q1 q3 hL (sf_afterok q2 hok)
    rw [sf_backMap, show M1.length - k0 = M.length - k0 + (M1.length - M.length) by omega, show sf_sl M1 - k1 = sf_sl M - k1 + (sf_sl M1 - sf_sl M) by omega] at this
    exact this
  · cases hrc
theorem sf_c_nest {i j : sf_I} {pc index k : Nat} {host : String} (hd : decode i.2.1 pc = .ok (.invokespecial index, 3)) (hJ : sf_JW j k) (hr0 : j.2.2.2 = none) (hnm : j.1.name = "<init>") (hi : Cond.instanceMethod j.1 ∈ sf_tb) (hl : (i.1.cls, index, j.1, host) ∈ sf_nest) (hg : GoodIn sf_tb sf_tb) : sf_CS i pc j (k + 1) (pc + 3) 1 := by
  intro g sc d p l e R s m args below meth c Q k0 k1 ls st M r M1 hC h0 h1 h2 h3 h4 h5 hk hk4 hkn hrc hM kk H locs larr hR hS hL hok
  obtain ⟨hx, hb, hml, hown, hts, ⟨hK, hKn⟩, hbs, hfr, hlo, -, -⟩ := hC
  obtain ⟨j1, j2, j3, j4⟩ := hJ
  have hcat : 2 * (F0 m pc larr (st.map (sf_cv g))).monitorRoom + (((st.drop (k + 1)).map (sf_cv g)).map fun v => v.category).sum ≤ 8 := by
    have := sf_cats g (st.drop (k + 1))
    rw [List.length_drop] at this
    exact lv_room (by omega)
  have cw := va_cnB (R := R) (own := i.1.cls) (host := host) (index := index) (mc := M1.length - M.length) (ms := sf_sl M1 - sf_sl M) (rm := sf_rm d (M1.length - M.length) (sf_sl M1 - sf_sl M)) k hts (sf_goodT j j1 hg) rfl rfl rfl (hKn.1 _ hl) (hts _ j2) j3 ⟨by show d + 1 + 1 ≤ R.frames; omega, by show 8 + (j.2.2.1 + 11) + 40 * (d + 1) ≤ R.locals; omega⟩
  rw [hr0] at cw
  unfold sf_rck at hrc
  dsimp only at hrc
  split at hrc
  · rename_i a as ha
    have hstk : st.map (sf_cv g) = (as.map (sf_cv g)).reverse ++ .ref (g.1 + a) :: (st.drop (k + 1)).map (sf_cv g) := by
      rw [sf_takeS (g := g) hk, ha]
      simp [sf_cv]
    have hasl : as.length = k := by
      have := congrArg List.length ha
      simp at this
      omega
    rw [ha] at hM
    refine sf_W_call (g := g) (r := r) (M1 := M1) (va_runIN (b := g.1 + a) (As := as.map (sf_cv g)) (rest := (st.drop (k + 1)).map (sf_cv g)) ⟨hx, hb, hml, hown, hts⟩ hM ⟨cw, hnm, hts _ hi⟩ ⟨sf_blind _ g M, fun U hU hW => ⟨rfl, by rw [hU]; exact hR, sf_KK.moved hW ⟨hK, hKn⟩, by rw [hU, hR.1]; omega⟩⟩ rfl (by simp [hasl]) (by show larr.size = _; exact hL.1) hstk hcat hd ⟨by omega, by omega⟩) hS (fun H1 locs1 q1 q2 q3 => ?_)
    have := kk H1 locs1 larr q1 q3 hL (sf_afterok q2 hok)
    rw [sf_backMap, show M1.length - k0 = M.length - k0 + (M1.length - M.length) by omega, show sf_sl M1 - k1 = sf_sl M - k1 + (sf_sl M1 - sf_sl M) by omega] at this
    exact this
  · cases hrc
