/-! constructors of Object, Math, returns; the interpreter is followed by the machine -/
def sf_aObj (nx : Nat) : sf_A := fun _ ls st M => match st with
  | .inr (.inl (some _)) :: r => if r.length ≤ 8 then some (nx, ls, r, M) else none
  | _ => none
theorem sf_r_obj {i : sf_I} {pc index : Nat} (hd : decode i.2.1 pc = .ok (.invokespecial index, 3)) (hl : Cond.methodLink i.1.cls index Lib.objectInit ∈ sf_tb) (hi : Cond.instanceMethod Lib.objectInit ∈ sf_tb) (hc : Cond.code Lib.objectInit ⟨#[0xb1]⟩ 1 none ∈ sf_tb) : sf_AS i pc (sf_aObj (pc + 3)) := by
  intro g sc ls st M pc' ls' st' M' hf
  unfold sf_aObj at hf
  split at hf
  · rename_i a r
    split at hf
    · rename_i hr8
      cases hf
      refine ⟨⟨Nat.le_refl _, Nat.le_refl _⟩, ?_⟩
      intro d p l e R s m args below meth c Q k0 k1 hC h0 h1' h2' h3' kk H locs larr hR hS hL hok
      obtain ⟨hx, hb, hml, hown, hts, ⟨hK, hKn⟩, hbs, hfr, hlo, -, -⟩ := hC
      have k2 := kk H locs larr hR hS hL (fun v hv => hok v (List.mem_cons_of_mem _ hv))
      have hcat := sf_cats g st'
      refine W.objInit hx hb hown (hts _ hl) (hts _ hi) (hts _ hc) (a := g.1 + a) (g := F0 m pc larr (.ref (g.1 + a) :: st'.map (sf_cv g))) (rest := st'.map (sf_cv g)) rfl (by show larr.size = _; rw [hml]; exact hL.1) rfl hd (by omega) (by show 2 * 0 + _ + 12 ≤ _; omega) ?_
      exact k2
    · cases hf
  · cases hf
def sf_fmax : List sf_V → Option (List sf_V) := fun a => match a with
  | [.inl y, .inl x] => some [.inl (if x < y then y else x)]
  | _ => none
def sf_aMax (nx : Nat) : sf_A := fun _ ls st M => match st with
  | .inl y :: .inl x :: r => if r.length ≤ 8 then some (nx, ls, .inl (if x < y then y else x) :: r, M) else none
  | _ => none
def sf_aMin (nx : Nat) : sf_A := fun _ ls st M => match st with
  | .inl y :: .inl x :: r => if r.length ≤ 8 then some (nx, ls, .inl (if y < x then y else x) :: r, M) else none
  | _ => none
theorem sf_r_max {i : sf_I} {pc index : Nat} (hd : decode i.2.1 pc = .ok (.invokestatic index, 3)) (hl : Cond.methodLink i.1.cls index Lib.Math.max.name ∈ sf_tb) (hs : Cond.static Lib.Math.max.name ∈ sf_tb) (hi : Cond.initialized "java/lang/Math" ∈ sf_tb) (hc : Cond.code Lib.Math.max.name Lib.Math.max.code 2 (some .int) ∈ sf_tb) : sf_AS i pc (sf_aMax (pc + 3)) := by
  intro g sc ls st M pc' ls' st' M' hf
  unfold sf_aMax at hf
  split at hf
  · rename_i y x r
    split at hf
    · rename_i hr8
      cases hf
      refine ⟨⟨Nat.le_refl _, Nat.le_refl _⟩, ?_⟩
      intro d p l e R s m args below meth c Q k0 k1 hC h0 h1' h2' h3' kk H locs larr hR hS hL hok
      obtain ⟨hx, hb, hml, hown, hts, ⟨hK, hKn⟩, hbs, hfr, hlo, -, -⟩ := hC
      have hyo : sf_oi y := hok (.inl y) List.mem_cons_self
      have hxo : sf_oi x := hok (.inl x) (List.mem_cons_of_mem _ List.mem_cons_self)
      have k2 := kk H locs larr hR hS hL (fun v hv => (List.mem_cons.mp hv).elim (fun z => by rw [z]; show sf_oi _; split <;> assumption) (fun z => hok v (List.mem_cons_of_mem _ (List.mem_cons_of_mem _ z))))
      have hcat := sf_cats g r
      refine va_mmax hx hb (by rw [hml]; exact hL.1.symm) hown (hts _ hl) (hts _ hs) (hts _ hi) (hts _ hc) (by omega) (by omega) (by omega) (by omega) (x := Int32.ofInt x) (y := Int32.ofInt y) hd ?_
      have e : (if Int32.ofInt x < Int32.ofInt y then Int32.ofInt y else Int32.ofInt x) = Int32.ofInt (if x < y then y else x) := by
        by_cases h : x < y
        · rw [if_pos h, if_pos ((sf_lt32 hxo hyo).mpr h)]
        · rw [if_neg h, if_neg (fun z => h ((sf_lt32 hxo hyo).mp z))]
      rw [e]
      exact k2
    · cases hf
  · cases hf
theorem sf_r_min {i : sf_I} {pc index : Nat} (hd : decode i.2.1 pc = .ok (.invokestatic index, 3)) (hl : Cond.methodLink i.1.cls index Lib.Math.min.name ∈ sf_tb) (hs : Cond.static Lib.Math.min.name ∈ sf_tb) (hi : Cond.initialized "java/lang/Math" ∈ sf_tb) (hc : Cond.code Lib.Math.min.name Lib.Math.min.code 2 (some .int) ∈ sf_tb) : sf_AS i pc (sf_aMin (pc + 3)) := by
  intro g sc ls st M pc' ls' st' M' hf
  unfold sf_aMin at hf
  split at hf
  · rename_i y x r
    split at hf
    · rename_i hr8
      cases hf
      refine ⟨⟨Nat.le_refl _, Nat.le_refl _⟩, ?_⟩
      intro d p l e R s m args below meth c Q k0 k1 hC h0 h1' h2' h3' kk H locs larr hR hS hL hok
      obtain ⟨hx, hb, hml, hown, hts, ⟨hK, hKn⟩, hbs, hfr, hlo, -, -⟩ := hC
      have hyo : sf_oi y := hok (.inl y) List.mem_cons_self
      have hxo : sf_oi x := hok (.inl x) (List.mem_cons_of_mem _ List.mem_cons_self)
      have k2 := kk H locs larr hR hS hL (fun v hv => (List.mem_cons.mp hv).elim (fun z => by rw [z]; show sf_oi _; split <;> assumption) (fun z => hok v (List.mem_cons_of_mem _ (List.mem_cons_of_mem _ z))))
      have hcat := sf_cats g r
      refine va_mmin hx hb (by rw [hml]; exact hL.1.symm) hown (hts _ hl) (hts _ hs) (hts _ hi) (hts _ hc) (by omega) (by omega) (by omega) (by omega) (x := Int32.ofInt x) (y := Int32.ofInt y) hd ?_
      have e : (if Int32.ofInt y < Int32.ofInt x then Int32.ofInt y else Int32.ofInt x) = Int32.ofInt (if y < x then y else x) := by
        by_cases h : y < x
        · rw [if_pos h, if_pos ((sf_lt32 hyo hxo).mpr h)]
        · rw [if_neg h, if_neg (fun z => h ((sf_lt32 hyo hxo).mp z))]
      rw [e]
      exact k2
    · cases hf
  · cases hf
def sf_RS (i : sf_I) (pc kind : Nat) : Prop := match kind with
  | 0 => decode i.2.1 pc = .ok (.return_, 1) ∧ i.2.2.2 = none
  | 1 => decode i.2.1 pc = .ok (.ireturn, 1) ∧ i.2.2.2 = some .int
  | 2 => decode i.2.1 pc = .ok (.ireturn, 1) ∧ i.2.2.2 = some .boolean
  | _ => decode i.2.1 pc = .ok (.areturn, 1) ∧ ∃ n, i.2.2.2 = some (.object n)
def sf_SND (inf : Nat → Option sf_I) (i : sf_I) (pc : Nat) (a : sf_Act) : Prop := match a with
  | .inl f => sf_AS i pc f
  | .inr (.inl q) => ∃ j, inf q.1 = some j ∧ sf_CS i pc j q.2.1 q.2.2.1 q.2.2.2
  | .inr (.inr kind) => sf_RS i pc kind
theorem sf_entSl {g : sf_G} : ∀ {as : List sf_V}, as.all sf_c1 = true → lg_sl (as.map (sf_cv g)) = as.map (fun v => Slot.val (sf_cv g v))
  | [], _ => rfl
  | v :: t, h => by
    simp only [List.all_cons, Bool.and_eq_true] at h
    have ih := sf_entSl (g := g) h.2
    have hc := sf_cat (g := g) h.1
    simp only [lg_sl, List.map_cons, List.flatMap_cons] at ih ⊢
    rw [ih, if_neg (by rw [hc]; decide)]
    rfl
theorem sf_entLR {g : sf_G} {as : List sf_V} {nL : Nat} (h1 : as.all sf_c1 = true) (h2 : as.length ≤ nL) (h3 : ∀ v ∈ as, sf_ok v) : sf_LR g nL (lg_sl (as.map (sf_cv g)) ++ List.replicate (nL - (lg_sl (as.map (sf_cv g))).length) Slot.unset).toArray (sf_ent nL as) := by
  rw [sf_entSl h1]
  refine ⟨by simp; omega, by simp [sf_ent]; omega, ⟨fun i v hv => ?_, fun i hv => ?_⟩, fun i v hv => ?_⟩
  · rw [List.getElem?_toArray] at hv
    rcases List.mem_append.mp (List.mem_of_getElem? hv) with h | h
    · obtain ⟨a, ha, he⟩ := List.mem_map.mp h
      cases he
      exact sf_cat (List.all_eq_true.mp h1 a ha)
    · cases (List.eq_of_mem_replicate h)
  · rw [List.getElem?_toArray] at hv
    rcases List.mem_append.mp (List.mem_of_getElem? hv) with h | h
    · obtain ⟨a, ha, he⟩ := List.mem_map.mp h
      cases he
    · cases (List.eq_of_mem_replicate h)
  · unfold sf_ent at hv
    by_cases hi : i < as.length
    · rw [List.getElem?_append_left (by simpa using hi), List.getElem?_map] at hv
      cases ha : as[i]? with
      | none => rw [ha] at hv; cases hv
      | some w =>
        rw [ha] at hv
        cases hv
        refine ⟨?_, h3 _ (List.mem_of_getElem? ha)⟩
        rw [List.getElem?_toArray, List.getElem?_append_left (by simpa using hi), List.getElem?_map, ha]
        rfl
    · rw [List.getElem?_append_right (by simpa using hi)] at hv
      cases (List.eq_of_mem_replicate (List.mem_of_getElem? hv))
theorem sf_ret_at {i : sf_I} {pcr kind : Nat} {g : sf_G} {d : Nat} {sc : Option (List Int)} {p : Program} {l : Launch} {e : Env} {R : Room} {s : State} {m : MethodId} {args : Array Value} {below : List Frame} {meth : Method} {c : Code} {M M1 : sf_M} {ls : sf_L} {st : List sf_V} {r : Option sf_V}
    (hrs : sf_RS i pcr kind) (hrt : sf_rt kind st = some r) (hC : sf_Cx g sc i d p R s m args meth c) (hr : meth.sig.returnType = i.2.2.2) (hlocks : meth.locks = false) : sf_At g i.2.2.1 p l e R s m args below meth c (MQ below (sf_Qc g r M1) args s (M1.length - M.length) (sf_sl M1 - sf_sl M) (fun q => g.1 ≤ q)) M.length (sf_sl M) pcr ls st M1 := by
  intro H locs larr hR hS hL hok
  obtain ⟨hx, hb, hml, hown, hts, ⟨hK, hKn⟩, hbs, hfr, hlo, -, -⟩ := hC
  have hq : ∀ t : State, t.heap = H → s.WarmedH t.vm → (∀ v, r = some v → sf_ok v) → sf_Qc g r M1 args s (.returned (r.map (sf_cv g))) t := fun t ht hW ho =>
    ⟨⟨rfl, ho, by rw [ht]; exact hR, sf_KK.moved hW ⟨hK, hKn⟩, by rw [ht, hR.1]; omega⟩, hS.F ht⟩
  unfold sf_rt at hrt
  split at hrt
  · cases hrt
    exact W.vret hx hb (hr.trans hrs.2) (fun t ht hW => hq t ht hW (fun v hv => by cases hv)) hS.2.2 hrs.1
  · rename_i x
    cases hrt
    exact W.iret (v := Int32.ofInt x) hx hb (hr.trans hrs.2) (fun t ht hW => hq t ht hW (fun v hv => by cases hv; exact hok _ List.mem_cons_self)) hS.2.2 hrs.1
  · rename_i x
    split at hrt
    · rename_i h01
      cases hrt
      refine W.zret (v := Int32.ofInt x) hx hb (hr.trans hrs.2) ?_ (fun t ht hW => hq t ht hW (fun v hv => by cases hv; exact hok _ List.mem_cons_self)) hS.2.2 hrs.1
      rcases h01 with rfl | rfl
      · show narrow .boolean (.int (Int32.ofInt 0)) = .int (Int32.ofInt 0)
        decide
      · show narrow .boolean (.int (Int32.ofInt 1)) = .int (Int32.ofInt 1)
        decide
    · cases hrt
  · rename_i a
    cases hrt
    obtain ⟨h1, nm, h2⟩ := hrs
    exact W.aret (v := .ref (g.1 + a)) hx hb (hr.trans h2) (Or.inl ⟨nm, rfl⟩) (Or.inr ⟨_, rfl⟩) (fun t ht hW => hq t ht hW (fun v hv => by cases hv; exact trivial)) hS.2.2 h1
  · cases hrt
/-- a callee's contract out of the interpreter's run of its body -/
theorem sf_met_of {act : Nat → Nat → Option sf_Act} {inf : Nat → Option sf_I} {y : Nat} {j : sf_I} (hj : inf y = some j) (hS : ∀ pc a, act y pc = some a → sf_SND inf j pc a) (hpl : plainName j.1.cls = true) {d : Nat} {as : List sf_V} {M : sf_M} {r : Option sf_V} {M1 : sf_M} {l : Launch} {g : sf_G} (h1 : as.all sf_c1 = true) (h2 : as.length ≤ j.2.2.1) (h3 : ∀ v ∈ as, sf_ok v)
    (run : ∀ (p : Program) (e : Env) (R : Room) (s : State) (m : MethodId) (args : Array Value) (below : List Frame) (meth : Method) (c : Code) (Q : State → Prop) (k0 k1 : Nat), sf_Cx g none j d p R s m args meth c → k0 ≤ M.length → k1 ≤ sf_sl M → M1.length - k0 ≤ R.cells → sf_sl M1 - k1 ≤ R.slots → (∀ pcr lsr kind str, act y pcr = some (.inr (.inr kind)) → sf_rt kind str = some r → sf_At g j.2.2.1 p l e R s m args below meth c Q k0 k1 pcr lsr str M1) → sf_At g j.2.2.1 p l e R s m args below meth c Q k0 k1 0 (sf_ent j.2.2.1 as) [] M) :
    sf_Met l g j d as M r M1 := by
  refine Met.ofW (cc := j.2.1) (maxL := j.2.2.1) (ret := j.2.2.2) hpl rfl ?_
  intro p e s m args below meth c s₁ B hml hv
  obtain ⟨rfl, hR, hK, hbs⟩ := hv
  have hts : ∀ w ∈ sf_ws j, w.before (as.map (sf_cv g)).toArray s = true := atoms_spec (ws := sf_ws j) B.pre
  have hC : sf_Cx g none j d p (sf_rm d (M1.length - M.length) (sf_sl M1 - sf_sl M)) s m (as.map (sf_cv g)).toArray meth c :=
    ⟨B.exec, B.bytes, hml, findClass_of_methodNamed B.named, fun w hw => hts w (List.mem_cons_of_mem _ hw), hK, hbs, Nat.le_refl _, Nat.le_refl _, fun h => (name_of_methodNamed B.named B.method).1.trans h, fun xs h => by cases h⟩
  have hlocks : meth.locks = false := B.notSynchronized
  rw [lg_entry_eq]
  have := run p e (sf_rm d (M1.length - M.length) (sf_sl M1 - sf_sl M)) s m (as.map (sf_cv g)).toArray below meth c (MQ below (sf_Qc g r M1) (as.map (sf_cv g)).toArray s (M1.length - M.length) (sf_sl M1 - sf_sl M) (fun q => g.1 ≤ q)) M.length (sf_sl M) hC (Nat.le_refl _) (Nat.le_refl _) (Nat.le_refl _) (Nat.le_refl _)
    (fun pcr lsr kind str ha hrt => sf_ret_at (hS pcr _ ha) hrt hC B.returns hlocks) s.heap [] _ hR ⟨Nat.le_refl _, fun _ _ _ => rfl, fun _ h => by cases h⟩ (sf_entLR h1 h2 h3) (fun v hv => by cases hv)
  rw [Nat.sub_self, Nat.sub_self] at this
  exact this
theorem sf_sound {act : Nat → Nat → Option sf_Act} {nl : Nat → Nat} {inf : Nat → Option sf_I} (hn : ∀ y i, inf y = some i → nl y = i.2.2.1 ∧ plainName i.1.cls = true) (hS : ∀ y i, inf y = some i → ∀ pc a, act y pc = some a → sf_SND inf i pc a) :
    ∀ (n d : Nat) (sc : Option (List Int)) (y pc : Nat) (ls : sf_L) (st : List sf_V) (M : sf_M) (r : Option sf_V) (M' : sf_M), sf_ex act nl n d sc y pc ls st M = some (r, M') → ∀ i, inf y = some i → (M.length ≤ M'.length ∧ sf_sl M ≤ sf_sl M') ∧
      ∀ (g : sf_G) (p : Program) (l : Launch) (e : Env) (R : Room) (s : State) (m : MethodId) (args : Array Value) (below : List Frame) (meth : Method) (c : Code) (Q : State → Prop) (k0 k1 : Nat), sf_Cx g sc i d p R s m args meth c → k0 ≤ M.length → k1 ≤ sf_sl M → M'.length - k0 ≤ R.cells → sf_sl M' - k1 ≤ R.slots →
        (∀ pcr lsr kind str, act y pcr = some (.inr (.inr kind)) → sf_rt kind str = some r → sf_At g i.2.2.1 p l e R s m args below meth c Q k0 k1 pcr lsr str M') → sf_At g i.2.2.1 p l e R s m args below meth c Q k0 k1 pc ls st M := by
  intro n
  induction n with
  | zero => intro d sc y pc ls st M r M' h; simp [sf_ex] at h
  | succ n ih =>
    intro d sc y pc ls st M r M' h i hi
    rw [sf_ex] at h
    cases ha : act y pc with
    | none => rw [ha] at h; cases h
    | some a =>
      rw [ha] at h
      have hs := hS y i hi pc a ha
      match a, h, hs with
      | .inl f, h, hs =>
        dsimp only at h
        cases hf : f sc ls st M with
        | none => rw [hf] at h; cases h
        | some q =>
          obtain ⟨pc1, ls1, st1, M1⟩ := q
          rw [hf] at h
          dsimp only at h
          obtain ⟨g1, g2⟩ := (hs ((0, 0, (fun _ => 0, fun _ _ => 0), fun _ => 0) : sf_G) sc ls st M pc1 ls1 st1 M1 hf).1
          obtain ⟨⟨g3, g4⟩, ih2⟩ := ih d sc y pc1 ls1 st1 M1 r M' h i hi
          refine ⟨⟨Nat.le_trans g1 g3, Nat.le_trans g2 g4⟩, ?_⟩
          intro g p l e R s m args below meth c Q k0 k1 hC h0 h1 h2 h3 hfin
          obtain ⟨-, hrule⟩ := hs g sc ls st M pc1 ls1 st1 M1 hf
          exact hrule d p l e R s m args below meth c Q k0 k1 hC h0 h1 (by omega) (by omega) (ih2 g p l e R s m args below meth c Q k0 k1 hC (by omega) (by omega) h2 h3 hfin)
      | .inr (.inl q), h, hs =>
        dsimp only at h
        obtain ⟨j, hj, hcs⟩ := hs
        split at h
        · rename_i hh
          obtain ⟨⟨c1, c2, c3⟩, c4, c5⟩ := hh
          match d, h with
          | 0, h => cases h
          | d + 1, h =>
            dsimp only at h
            obtain ⟨hnl, hpl⟩ := hn q.1 j hj
            rw [hnl] at h c3
            cases hz : sf_ex act nl n d none q.1 0 (sf_ent j.2.2.1 (st.take q.2.1).reverse) [] M with
            | none => rw [hz] at h; cases h
            | some z =>
              obtain ⟨r1, M1⟩ := z
              rw [hz] at h
              dsimp only at h
              obtain ⟨⟨g1, g2⟩, ih1⟩ := ih d none q.1 0 _ _ M r1 M1 hz j hj
              obtain ⟨⟨g3, g4⟩, ih2⟩ := ih (d + 1) sc y q.2.2.1 ls _ M1 r M' h i hi
              refine ⟨⟨Nat.le_trans g1 g3, Nat.le_trans g2 g4⟩, ?_⟩
              intro g p l e R s m args below meth c Q k0 k1 hC h0 h1 h2 h3 hfin H locs larr hR hSS hL hok
              have hmet : sf_Met l g j d (st.take q.2.1).reverse M r1 M1 := sf_met_of hj (hS q.1 j hj) hpl (by rw [List.all_reverse]; exact c5) (by simp; omega) (fun v hv => hok v (List.mem_of_mem_take (List.mem_reverse.mp hv))) (fun p e R s m args below meth c Q k0 k1 => ih1 g p l e R s m args below meth c Q k0 k1)
              exact hcs g sc d p l e R s m args below meth c Q k0 k1 ls st M r1 M1 hC h0 h1 g1 g2 (by omega) (by omega) c1 c2 c3 c4 hmet (ih2 g p l e R s m args below meth c Q k0 k1 hC (by omega) (by omega) h2 h3 hfin) H locs larr hR hSS hL hok
        · cases h
      | .inr (.inr kind), h, hs =>
        dsimp only at h
        cases hrt : sf_rt kind st with
        | none => rw [hrt] at h; cases h
        | some r1 =>
          rw [hrt] at h
          cases h
          exact ⟨⟨Nat.le_refl _, Nat.le_refl _⟩, fun g p l e R s m args below meth c Q k0 k1 hC h0 h1 h2 h3 hfin => hfin pc ls kind st ha hrt⟩
/-- more steps do no harm -/
theorem sf_ex_mono {act : Nat → Nat → Option sf_Act} {nl : Nat → Nat} : ∀ (n d : Nat) (sc : Option (List Int)) (y pc : Nat) (ls : sf_L) (st : List sf_V) (M : sf_M) (z : Option sf_V × sf_M), sf_ex act nl n d sc y pc ls st M = some z → ∀ k, n ≤ k → sf_ex act nl k d sc y pc ls st M = some z := by
  intro n
  induction n with
  | zero => intro d sc y pc ls st M z h; simp [sf_ex] at h
  | succ n ih =>
    intro d sc y pc ls st M z h k hk
    match k, hk with
    | k + 1, hk =>
      have hk' : n ≤ k := by omega
      rw [sf_ex] at h ⊢
      cases ha : act y pc with
      | none => rw [ha] at h; cases h
      | some a =>
        rw [ha] at h
        match a, h with
        | .inl f, h =>
          dsimp only at h ⊢
          cases hf : f sc ls st M with
          | none => rw [hf] at h; cases h
          | some q => rw [hf] at h; exact ih _ _ _ _ _ _ _ _ h k hk'
        | .inr (.inl q), h =>
          dsimp only at h ⊢
          split at h
          · rename_i hh
            rw [if_pos hh]
            match d, h with
            | 0, h => cases h
            | d + 1, h =>
              dsimp only at h ⊢
              cases hz : sf_ex act nl n d none q.1 0 (sf_ent (nl q.1) (st.take q.2.1).reverse) [] M with
              | none => rw [hz] at h; cases h
              | some w =>
                rw [hz] at h
                rw [ih _ _ _ _ _ _ _ _ hz k hk']
                exact ih _ _ _ _ _ _ _ _ h k hk'
          · cases h
        | .inr (.inr kind), h => exact h
