/-! the actions that only turn the top of the stack -/
def sf_aS (k : Nat) (F : List sf_V → Option (List sf_V)) (nx : Nat) : sf_A := fun _ ls st M =>
  if k ≤ st.length then match F (st.take k) with
    | some b => some (nx, ls, b ++ st.drop k, M)
    | none => none
  else none
def sf_WW (i : sf_I) (pc nx : Nat) (a b : List Value) : Prop := ∀ (p : Program) (l : Launch) (e : Env) (R : Room) (s : State) (m : MethodId) (args : Array Value) (below : List Frame) (meth : Method) (c : Code) (H : Heap) (locs : List Loc) (cells slots : Nat) (Q : State → Prop) (ls : Array Slot) (rest : List Value),
  p.tables.exec = Jvm.exec → c.code = i.2.1 → W p l e R s m args below meth c H locs cells slots Q (F0 m nx ls (b ++ rest)) → W p l e R s m args below meth c H locs cells slots Q (F0 m pc ls (a ++ rest))
theorem sf_rS {i : sf_I} {pc nx k : Nat} {F : List sf_V → Option (List sf_V)} (h : ∀ (g : sf_G) (a b : List sf_V), F a = some b → (∀ v ∈ a, sf_ok v) → (∀ v ∈ b, sf_ok v) ∧ sf_WW i pc nx (a.map (sf_cv g)) (b.map (sf_cv g))) : sf_AS i pc (sf_aS k F nx) := by
  intro g sc ls st M pc' ls' st' M' hf
  unfold sf_aS at hf
  split at hf
  · split at hf
    · rename_i b hF
      cases hf
      refine ⟨⟨Nat.le_refl _, Nat.le_refl _⟩, ?_⟩
      intro d p l e R s m args below meth c Q k0 k1 hC h0 h1 h2 h3 kk H locs larr hR hS hL hok
      have hsplit : st = st.take k ++ st.drop k := (List.take_append_drop k st).symm
      obtain ⟨q1, q2⟩ := h g (st.take k) b hF (fun v hv => hok v (List.mem_of_mem_take hv))
      have := kk H locs larr hR hS hL (fun v hv => (List.mem_append.mp hv).elim (q1 v) (fun z => hok v (List.mem_of_mem_drop z)))
      rw [List.map_append] at this
      have z := q2 p l e R s m args below meth c H locs _ _ Q larr _ hC.1 hC.2.1 this
      rw [← List.map_append, ← hsplit] at z
      exact z
    · cases hf
  · cases hf
-- constants
def sf_fK (n : Int) : List sf_V → Option (List sf_V) := fun _ => some [.inl n]
theorem sf_rK {i : sf_I} {pc nx : Nat} {n : Int} (hn : sf_oi n) (h : sf_WW i pc nx [] [.int (Int32.ofInt n)]) : sf_AS i pc (sf_aS 0 (sf_fK n) nx) := by
  intro g sc ls st M pc' ls' st' M' hf
  have hf : some (nx, ls, [.inl n] ++ st, M) = some (pc', ls', st', M') := by simpa [sf_aS, sf_fK] using hf
  cases hf
  refine ⟨⟨Nat.le_refl _, Nat.le_refl _⟩, ?_⟩
  intro d p l e R s m args below meth c Q k0 k1 hC h0 h1 h2 h3 kk H locs larr hR hS hL hok
  have := kk H locs larr hR hS hL (fun v hv => (List.mem_cons.mp hv).elim (fun z => by rw [z]; exact hn) (hok v))
  exact h p l e R s m args below meth c H locs _ _ Q larr _ hC.1 hC.2.1 this
theorem sf_r_iconst {i : sf_I} {pc : Nat} {n : Int} (hd : decode i.2.1 pc = .ok (.iconst n, 1)) (hn : -1 ≤ n ∧ n ≤ 5) : sf_AS i pc (sf_aS 0 (sf_fK n) (pc + 1)) :=
  sf_rK ⟨by omega, by omega⟩ (fun p l e R s m args below meth c H locs cells slots Q ls rest hx hb k => lv_iconst hx hb hd rfl k)
theorem sf_r_bipush {i : sf_I} {pc : Nat} {n : Int} (hd : decode i.2.1 pc = .ok (.bipush n, 2)) (hn : (Int8.ofInt n).toInt32 = Int32.ofInt n) (hr : sf_oi n) : sf_AS i pc (sf_aS 0 (sf_fK n) (pc + 2)) :=
  sf_rK hr (fun p l e R s m args below meth c H locs cells slots Q ls rest hx hb k => lv_bipush hx hb hd hn k)
theorem sf_r_sipush {i : sf_I} {pc : Nat} {n : Int} (hd : decode i.2.1 pc = .ok (.sipush n, 3)) (hn : (Int16.ofInt n).toInt32 = Int32.ofInt n) (hr : sf_oi n) : sf_AS i pc (sf_aS 0 (sf_fK n) (pc + 3)) :=
  sf_rK hr (fun p l e R s m args below meth c H locs cells slots Q ls rest hx hb k => lv_sipush hx hb hd hn k)
/-- constants of the pool: own class, index and word among the tables' -/
theorem sf_r_ldc {i : sf_I} {pc index : Nat} {v : Int32} {n : Int} (hd : decode i.2.1 pc = .ok (.ldc index, 2)) (hw : Jvm.Cond.constant i.1.cls index v ∈ sf_tb) (hv : Int32.ofInt n = v) (hr : sf_oi n) : sf_AS i pc (sf_aS 0 (sf_fK n) (pc + 2)) := by
  intro g sc ls st M pc' ls' st' M' hf
  have hf : some (pc + 2, ls, [.inl n] ++ st, M) = some (pc', ls', st', M') := by simpa [sf_aS, sf_fK] using hf
  cases hf
  refine ⟨⟨Nat.le_refl _, Nat.le_refl _⟩, ?_⟩
  intro d p l e R s m args below meth c Q k0 k1 hC h0 h1 h2 h3 kk H locs larr hR hS hL hok
  obtain ⟨hx, hb, hml, hown, hts, -⟩ := hC
  subst hv
  exact lv_ldc hx hb hown (hts _ hw) hd (kk H locs larr hR hS hL (fun v hv => (List.mem_cons.mp hv).elim (fun z => by rw [z]; exact hr) (hok v)))
theorem sf_r_ldcw {i : sf_I} {pc index : Nat} {v : Int32} {n : Int} (h : ∀ {p : Program} {l : Launch} {e : Env} {R : Room} {s : State} {m : MethodId} {args : Array Value} {below : List Frame} {meth : Method} {c : Code} {H : Heap} {locs : List Loc} {cells slots : Nat} {Q : State → Prop} {ls : Array Slot} {rest : List Value}, p.tables.exec = Jvm.exec → c.code = i.2.1 → s.vm.findClass i.1.cls = some m.cls → (Jvm.Cond.constant i.1.cls index v).before args s = true → W p l e R s m args below meth c H locs cells slots Q (F0 m (pc + 3) ls (.int v :: rest)) → W p l e R s m args below meth c H locs cells slots Q (F0 m pc ls rest)) (hw : Jvm.Cond.constant i.1.cls index v ∈ sf_tb) (hv : Int32.ofInt n = v) (hr : sf_oi n) : sf_AS i pc (sf_aS 0 (sf_fK n) (pc + 3)) := by
  intro g sc ls st M pc' ls' st' M' hf
  have hf : some (pc + 3, ls, [.inl n] ++ st, M) = some (pc', ls', st', M') := by simpa [sf_aS, sf_fK] using hf
  cases hf
  refine ⟨⟨Nat.le_refl _, Nat.le_refl _⟩, ?_⟩
  intro d p l e R s m args below meth c Q k0 k1 hC h0 h1 h2 h3 kk H locs larr hR hS hL hok
  obtain ⟨hx, hb, hml, hown, hts, -⟩ := hC
  subst hv
  exact h hx hb hown (hts _ hw) (kk H locs larr hR hS hL (fun v hv => (List.mem_cons.mp hv).elim (fun z => by rw [z]; exact hr) (hok v)))
def sf_fKl (n : Int) : List sf_V → Option (List sf_V) := fun _ => some [.inr (.inr (.inl n))]
theorem sf_r_lconst {i : sf_I} {pc : Nat} {n : Int} {k : Fin 2} (hd : decode i.2.1 pc = .ok (.lconst k, 1)) (hv : Int64.ofNat (k : Nat) = Int64.ofInt n) (hr : sf_ol n) : sf_AS i pc (sf_aS 0 (sf_fKl n) (pc + 1)) := by
  intro g sc ls st M pc' ls' st' M' hf
  have hf : some (pc + 1, ls, [.inr (.inr (.inl n))] ++ st, M) = some (pc', ls', st', M') := by simpa [sf_aS, sf_fKl] using hf
  cases hf
  refine ⟨⟨Nat.le_refl _, Nat.le_refl _⟩, ?_⟩
  intro d p l e R s m args below meth c Q k0 k1 hC h0 h1 h2 h3 kk H locs larr hR hS hL hok
  obtain ⟨hx, hb, hml, hown, hts, -⟩ := hC
  exact lv_lconst hx hb hd hv (kk H locs larr hR hS hL (fun v hv => (List.mem_cons.mp hv).elim (fun z => by rw [z]; exact hr) (hok v)))
theorem sf_r_ldc2 {i : sf_I} {pc index : Nat} {v : Int64} {n : Int} (hd : decode i.2.1 pc = .ok (.ldc2_w index, 3)) (hw : Jvm.Cond.constantLong i.1.cls index v ∈ sf_tb) (hv : Int64.ofInt n = v) (hr : sf_ol n) : sf_AS i pc (sf_aS 0 (sf_fKl n) (pc + 3)) := by
  intro g sc ls st M pc' ls' st' M' hf
  have hf : some (pc + 3, ls, [.inr (.inr (.inl n))] ++ st, M) = some (pc', ls', st', M') := by simpa [sf_aS, sf_fKl] using hf
  cases hf
  refine ⟨⟨Nat.le_refl _, Nat.le_refl _⟩, ?_⟩
  intro d p l e R s m args below meth c Q k0 k1 hC h0 h1 h2 h3 kk H locs larr hR hS hL hok
  obtain ⟨hx, hb, hml, hown, hts, -⟩ := hC
  subst hv
  exact lv_ldc2 hx hb hown (hts _ hw) hd (kk H locs larr hR hS hL (fun v hv => (List.mem_cons.mp hv).elim (fun z => by rw [z]; exact hr) (hok v)))
-- two ints to one
def sf_f2 (F : Int → Int → Option Int) : List sf_V → Option (List sf_V) := fun a => match a with
  | [.inl y, .inl x] => match F x y with
    | some z => some [.inl z]
    | none => none
  | _ => none
theorem sf_r2 {i : sf_I} {pc nx : Nat} {F : Int → Int → Option Int} (h : ∀ x y z : Int, F x y = some z → sf_oi x → sf_oi y → sf_oi z ∧ sf_WW i pc nx [.int (Int32.ofInt y), .int (Int32.ofInt x)] [.int (Int32.ofInt z)]) : sf_AS i pc (sf_aS 2 (sf_f2 F) nx) := by
  refine sf_rS (fun g a b hF hok => ?_)
  unfold sf_f2 at hF
  split at hF
  · rename_i y x
    split at hF
    · rename_i z hz
      cases hF
      obtain ⟨q1, q2⟩ := h x y z hz (hok (.inl x) (by simp)) (hok (.inl y) (by simp))
      exact ⟨fun v hv => by rw [List.mem_singleton.mp hv]; exact q1, q2⟩
    · cases hF
  · cases hF
def sf_fadd (x y : Int) : Option Int := some (sf_w (x + y))
def sf_fsub (x y : Int) : Option Int := some (sf_w (x - y))
def sf_fmul (x y : Int) : Option Int := some (sf_w (x * y))
def sf_fdiv (x y : Int) : Option Int := if y = 0 then none else some (sf_w (x.tdiv y))
def sf_frem (x y : Int) : Option Int := if y = 0 then none else some (x.tmod y)
def sf_fand (x y : Int) : Option Int := some (Int32.ofInt x &&& Int32.ofInt y).toInt
def sf_for (x y : Int) : Option Int := some (Int32.ofInt x ||| Int32.ofInt y).toInt
def sf_fxor (x y : Int) : Option Int := some (Int32.ofInt x ^^^ Int32.ofInt y).toInt
def sf_fshl (x y : Int) : Option Int := some (Int32.ofInt x <<< (Int32.ofInt y &&& 31)).toInt
def sf_fshr (x y : Int) : Option Int := some (Int32.ofInt x >>> (Int32.ofInt y &&& 31)).toInt
def sf_fushr (x y : Int) : Option Int := some ((Int32.ofInt x).toUInt32 >>> ((Int32.ofInt y).toUInt32 &&& Int32.toUInt32 31)).toInt32.toInt
theorem sf_r_iadd {i : sf_I} {pc : Nat} (hd : decode i.2.1 pc = .ok (.iadd, 1)) : sf_AS i pc (sf_aS 2 (sf_f2 sf_fadd) (pc + 1)) :=
  sf_r2 (fun x y z h _ _ => by cases h; exact ⟨sf_w_ok _, fun p l e R s m args below meth c H locs cells slots Q ls rest hx hb k => lv_iadd hx hb hd (by rw [sf_w_32, Int32.ofInt_add] at k; exact k)⟩)
theorem sf_r_isub {i : sf_I} {pc : Nat} (hd : decode i.2.1 pc = .ok (.isub, 1)) : sf_AS i pc (sf_aS 2 (sf_f2 sf_fsub) (pc + 1)) :=
  sf_r2 (fun x y z h _ _ => by cases h; exact ⟨sf_w_ok _, fun p l e R s m args below meth c H locs cells slots Q ls rest hx hb k => lv_isub hx hb hd (by rw [sf_w_32, Int32.ofInt_sub] at k; exact k)⟩)
theorem sf_r_imul {i : sf_I} {pc : Nat} (hd : decode i.2.1 pc = .ok (.imul, 1)) : sf_AS i pc (sf_aS 2 (sf_f2 sf_fmul) (pc + 1)) :=
  sf_r2 (fun x y z h _ _ => by cases h; exact ⟨sf_w_ok _, fun p l e R s m args below meth c H locs cells slots Q ls rest hx hb k => lv_imul hx hb hd (by rw [sf_w_32, Int32.ofInt_mul] at k; exact k)⟩)
theorem sf_r_iand {i : sf_I} {pc : Nat} (hd : decode i.2.1 pc = .ok (.iand, 1)) : sf_AS i pc (sf_aS 2 (sf_f2 sf_fand) (pc + 1)) :=
  sf_r2 (fun x y z h _ _ => by cases h; exact ⟨sf_oiT _, fun p l e R s m args below meth c H locs cells slots Q ls rest hx hb k => lv_iand hx hb hd (by rw [sf_ofT] at k; exact k)⟩)
theorem sf_r_ior {i : sf_I} {pc : Nat} (hd : decode i.2.1 pc = .ok (.ior, 1)) : sf_AS i pc (sf_aS 2 (sf_f2 sf_for) (pc + 1)) :=
  sf_r2 (fun x y z h _ _ => by cases h; exact ⟨sf_oiT _, fun p l e R s m args below meth c H locs cells slots Q ls rest hx hb k => lv_ior hx hb hd (by rw [sf_ofT] at k; exact k)⟩)
theorem sf_r_ixor {i : sf_I} {pc : Nat} (hd : decode i.2.1 pc = .ok (.ixor, 1)) : sf_AS i pc (sf_aS 2 (sf_f2 sf_fxor) (pc + 1)) :=
  sf_r2 (fun x y z h _ _ => by cases h; exact ⟨sf_oiT _, fun p l e R s m args below meth c H locs cells slots Q ls rest hx hb k => lv_ixor hx hb hd (by rw [sf_ofT] at k; exact k)⟩)
theorem sf_r_ishl {i : sf_I} {pc : Nat} (hd : decode i.2.1 pc = .ok (.ishl, 1)) : sf_AS i pc (sf_aS 2 (sf_f2 sf_fshl) (pc + 1)) :=
  sf_r2 (fun x y z h _ _ => by cases h; exact ⟨sf_oiT _, fun p l e R s m args below meth c H locs cells slots Q ls rest hx hb k => lv_ishl hx hb hd (by rw [sf_ofT] at k; exact k)⟩)
theorem sf_r_ishr {i : sf_I} {pc : Nat} (hd : decode i.2.1 pc = .ok (.ishr, 1)) : sf_AS i pc (sf_aS 2 (sf_f2 sf_fshr) (pc + 1)) :=
  sf_r2 (fun x y z h _ _ => by cases h; exact ⟨sf_oiT _, fun p l e R s m args below meth c H locs cells slots Q ls rest hx hb k => lv_ishr hx hb hd (by rw [sf_ofT] at k; exact k)⟩)
theorem sf_r_iushr {i : sf_I} {pc : Nat} (hd : decode i.2.1 pc = .ok (.iushr, 1)) : sf_AS i pc (sf_aS 2 (sf_f2 sf_fushr) (pc + 1)) :=
  sf_r2 (fun x y z h _ _ => by cases h; exact ⟨sf_oiT _, fun p l e R s m args below meth c H locs cells slots Q ls rest hx hb k => lv_iushr hx hb hd rfl (by rw [sf_ofT] at k; exact k)⟩)
theorem sf_ne0 {y : Int} (hy : sf_oi y) (h : ¬ y = 0) : ¬ Int32.ofInt y = 0 := fun q => h (by
  have := congrArg Int32.toInt q
  rw [sf_toI hy] at this
  simpa using this)
theorem sf_div32 {x y : Int} (hx0 : sf_oi x) (hy0 : sf_oi y) : Int32.ofInt (x.tdiv y) = Int32.ofInt x / Int32.ofInt y := by
  rw [← sf_ofT (Int32.ofInt x / Int32.ofInt y), Int32.toInt_div, sf_toI hx0, sf_toI hy0]
  apply Int32.toInt_inj.mp
  simp [Int32.toInt_ofInt]
theorem sf_div64 {x y : Int} (hx0 : sf_ol x) (hy0 : sf_ol y) : Int64.ofInt (x.tdiv y) = Int64.ofInt x / Int64.ofInt y := by
  rw [← sf_ofT64 (Int64.ofInt x / Int64.ofInt y), Int64.toInt_div, sf_toL hx0, sf_toL hy0]
  apply Int64.toInt_inj.mp
  simp [Int64.toInt_ofInt]
theorem sf_r_idiv {i : sf_I} {pc : Nat} (hd : decode i.2.1 pc = .ok (.idiv, 1)) : sf_AS i pc (sf_aS 2 (sf_f2 sf_fdiv) (pc + 1)) :=
  sf_r2 (fun x y z h hx0 hy0 => by
    unfold sf_fdiv at h
    split at h
    · cases h
    · rename_i hne
      cases h
      refine ⟨sf_w_ok _, fun p l e R s m args below meth c H locs cells slots Q ls rest hx hb k => lv_idiv hx hb hd (sf_ne0 hy0 hne) ?_⟩
      have hv : Int32.ofInt (sf_w (x.tdiv y)) = Int32.ofInt x / Int32.ofInt y := by
        rw [sf_w_32, ← sf_ofT (Int32.ofInt x / Int32.ofInt y), Int32.toInt_div, sf_toI hx0, sf_toI hy0]
        apply Int32.toInt_inj.mp
        simp [Int32.toInt_ofInt]
      rw [hv] at k
      exact k)
theorem sf_r_irem {i : sf_I} {pc : Nat} (hd : decode i.2.1 pc = .ok (.irem, 1)) : sf_AS i pc (sf_aS 2 (sf_f2 sf_frem) (pc + 1)) :=
  sf_r2 (fun x y z h hx0 hy0 => by
    unfold sf_frem at h
    split at h
    · cases h
    · rename_i hne
      cases h
      have hv : Int32.ofInt (x.tmod y) = Int32.ofInt x % Int32.ofInt y := by
        rw [← sf_ofT (Int32.ofInt x % Int32.ofInt y), Int32.toInt_mod, sf_toI hx0, sf_toI hy0]
      have hz : Int32.ofInt (x.tmod y) = Int32.ofInt x - Int32.ofInt x / Int32.ofInt y * Int32.ofInt y := by
        rw [Int.tmod_def, Int32.ofInt_sub, Int32.ofInt_mul, sf_div32 hx0 hy0, Int32.mul_comm]
      refine ⟨?_, fun p l e R s m args below meth c H locs cells slots Q ls rest hx hb k => lv_irem hx hb hd (sf_ne0 hy0 hne) (by rw [hz] at k; exact k)⟩
      have := sf_oiT (Int32.ofInt x % Int32.ofInt y)
      rw [Int32.toInt_mod, sf_toI hx0, sf_toI hy0] at this
      exact this)
-- longs
def sf_fi2l : List sf_V → Option (List sf_V) := fun a => match a with
  | [.inl x] => some [.inr (.inr (.inl x))]
  | _ => none
theorem sf_r_i2l {i : sf_I} {pc : Nat} (hd : decode i.2.1 pc = .ok (.i2l, 1)) : sf_AS i pc (sf_aS 1 sf_fi2l (pc + 1)) := by
  refine sf_rS (fun g a b hF hok => ?_)
  unfold sf_fi2l at hF
  split at hF
  · rename_i x
    cases hF
    have hx0 : sf_oi x := hok (.inl x) (by simp)
    refine ⟨fun v hv => by rw [List.mem_singleton.mp hv]; exact ⟨by have := hx0.1; omega, by have := hx0.2; omega⟩, fun p l e R s m args below meth c H locs cells slots Q ls rest hx hb k => lv_i2l hx hb hd ?_ k⟩
    apply Int64.toInt_inj.mp
    rw [Int32.toInt_toInt64, sf_toI hx0, sf_toL ⟨by have := hx0.1; omega, by have := hx0.2; omega⟩]
  · cases hF
def sf_fl2i : List sf_V → Option (List sf_V) := fun a => match a with
  | [.inr (.inr (.inl x))] => some [.inl (sf_w x)]
  | _ => none
theorem sf_r_l2i {i : sf_I} {pc : Nat} (hd : decode i.2.1 pc = .ok (.l2i, 1)) : sf_AS i pc (sf_aS 1 sf_fl2i (pc + 1)) := by
  refine sf_rS (fun g a b hF hok => ?_)
  unfold sf_fl2i at hF
  split at hF
  · rename_i x
    cases hF
    have hx0 : sf_ol x := hok (.inr (.inr (.inl x))) (by simp)
    refine ⟨fun v hv => by rw [List.mem_singleton.mp hv]; exact sf_w_ok _, fun p l e R s m args below meth c H locs cells slots Q ls rest hx hb k => lv_l2i hx hb hd (v := Int32.ofInt (sf_w x)) ?_ k⟩
    rw [sf_w_32]
    apply Int32.toInt_inj.mp
    rw [Int64.toInt_toInt32, sf_toL hx0, Int32.toInt_ofInt]
  · cases hF
def sf_fl2 (F : Int → Int → Option Int) : List sf_V → Option (List sf_V) := fun a => match a with
  | [.inr (.inr (.inl y)), .inr (.inr (.inl x))] => match F x y with
    | some z => some [.inr (.inr (.inl z))]
    | none => none
  | _ => none
theorem sf_rl2 {i : sf_I} {pc nx : Nat} {F : Int → Int → Option Int} (h : ∀ x y z : Int, F x y = some z → sf_ol x → sf_ol y → sf_ol z ∧ sf_WW i pc nx [.long (Int64.ofInt y), .long (Int64.ofInt x)] [.long (Int64.ofInt z)]) : sf_AS i pc (sf_aS 2 (sf_fl2 F) nx) := by
  refine sf_rS (fun g a b hF hok => ?_)
  unfold sf_fl2 at hF
  split at hF
  · rename_i y x
    split at hF
    · rename_i z hz
      cases hF
      obtain ⟨q1, q2⟩ := h x y z hz (hok (.inr (.inr (.inl x))) (by simp)) (hok (.inr (.inr (.inl y))) (by simp))
      exact ⟨fun v hv => by rw [List.mem_singleton.mp hv]; exact q1, q2⟩
    · cases hF
  · cases hF
def sf_fladd (x y : Int) : Option Int := some (sf_wl (x + y))
def sf_flmul (x y : Int) : Option Int := some (sf_wl (x * y))
def sf_fland (x y : Int) : Option Int := some (Int64.ofInt x &&& Int64.ofInt y).toInt
def sf_flrem (x y : Int) : Option Int := if y = 0 then none else some (x.tmod y)
theorem sf_r_ladd {i : sf_I} {pc : Nat} (hd : decode i.2.1 pc = .ok (.ladd, 1)) : sf_AS i pc (sf_aS 2 (sf_fl2 sf_fladd) (pc + 1)) :=
  sf_rl2 (fun x y z h _ _ => by cases h; exact ⟨sf_wl_ok _, fun p l e R s m args below meth c H locs cells slots Q ls rest hx hb k => lv_ladd hx hb hd (by rw [sf_wl_64, Int64.ofInt_add] at k; exact k)⟩)
theorem sf_r_lmul {i : sf_I} {pc : Nat} (hd : decode i.2.1 pc = .ok (.lmul, 1)) : sf_AS i pc (sf_aS 2 (sf_fl2 sf_flmul) (pc + 1)) :=
  sf_rl2 (fun x y z h _ _ => by cases h; exact ⟨sf_wl_ok _, fun p l e R s m args below meth c H locs cells slots Q ls rest hx hb k => lv_lmul hx hb hd (by rw [sf_wl_64, Int64.ofInt_mul] at k; exact k)⟩)
theorem sf_r_land {i : sf_I} {pc : Nat} (hd : decode i.2.1 pc = .ok (.land, 1)) : sf_AS i pc (sf_aS 2 (sf_fl2 sf_fland) (pc + 1)) :=
  sf_rl2 (fun x y z h _ _ => by cases h; exact ⟨sf_olT _, fun p l e R s m args below meth c H locs cells slots Q ls rest hx hb k => lv_land hx hb hd (by rw [sf_ofT64] at k; exact k)⟩)
theorem sf_ne064 {y : Int} (hy : sf_ol y) (h : ¬ y = 0) : ¬ Int64.ofInt y = 0 := fun q => h (by
  have := congrArg Int64.toInt q
  rw [sf_toL hy] at this
  simpa using this)
theorem sf_r_lrem {i : sf_I} {pc : Nat} (hd : decode i.2.1 pc = .ok (.lrem, 1)) : sf_AS i pc (sf_aS 2 (sf_fl2 sf_flrem) (pc + 1)) :=
  sf_rl2 (fun x y z h hx0 hy0 => by
    unfold sf_flrem at h
    split at h
    · cases h
    · rename_i hne
      cases h
      have hv : Int64.ofInt (x.tmod y) = Int64.ofInt x % Int64.ofInt y := by
        rw [← sf_ofT64 (Int64.ofInt x % Int64.ofInt y), Int64.toInt_mod, sf_toL hx0, sf_toL hy0]
      have hz : Int64.ofInt (x.tmod y) = Int64.ofInt x - Int64.ofInt x / Int64.ofInt y * Int64.ofInt y := by
        rw [Int.tmod_def, Int64.ofInt_sub, Int64.ofInt_mul, sf_div64 hx0 hy0, Int64.mul_comm]
      refine ⟨?_, fun p l e R s m args below meth c H locs cells slots Q ls rest hx hb k => lv_lrem hx hb hd (sf_ne064 hy0 hne) (by rw [hz] at k; exact k)⟩
      have := sf_olT (Int64.ofInt x % Int64.ofInt y)
      rw [Int64.toInt_mod, sf_toL hx0, sf_toL hy0] at this
      exact this)
-- the stack's own
def sf_fdup : List sf_V → Option (List sf_V) := fun a => match a with
  | [v] => if sf_c1 v then some [v, v] else none
  | _ => none
theorem sf_r_dup {i : sf_I} {pc : Nat} (hd : decode i.2.1 pc = .ok (.dup, 1)) : sf_AS i pc (sf_aS 1 sf_fdup (pc + 1)) := by
  refine sf_rS (fun g a b hF hok => ?_)
  unfold sf_fdup at hF
  split at hF
  · rename_i v
    split at hF
    · rename_i hv
      cases hF
      exact ⟨fun w hw => hok w (by simpa using hw), fun p l e R s m args below meth c H locs cells slots Q ls rest hx hb k => lv_dup hx hb hd (sf_cat hv) k⟩
    · cases hF
  · cases hF
def sf_fdup2 : List sf_V → Option (List sf_V) := fun a => match a with
  | [v, w] => if sf_c1 v && sf_c1 w then some [v, w, v, w] else none
  | _ => none
theorem sf_r_dup2 {i : sf_I} {pc : Nat} (hd : decode i.2.1 pc = .ok (.dup2, 1)) : sf_AS i pc (sf_aS 2 sf_fdup2 (pc + 1)) := by
  refine sf_rS (fun g a b hF hok => ?_)
  unfold sf_fdup2 at hF
  split at hF
  · rename_i v w
    split at hF
    · rename_i hv
      rw [Bool.and_eq_true] at hv
      cases hF
      exact ⟨fun z hz => hok z (by simp at hz ⊢; rcases hz with h | h | h | h <;> simp [h]), fun p l e R s m args below meth c H locs cells slots Q ls rest hx hb k => lv_dup2_11 hx hb hd (sf_cat hv.1) (sf_cat hv.2) k⟩
    · cases hF
  · cases hF
def sf_fpop : List sf_V → Option (List sf_V) := fun a => match a with
  | [v] => if sf_c1 v then some [] else none
  | _ => none
theorem sf_r_pop {i : sf_I} {pc : Nat} (hd : decode i.2.1 pc = .ok (.pop, 1)) : sf_AS i pc (sf_aS 1 sf_fpop (pc + 1)) := by
  refine sf_rS (fun g a b hF hok => ?_)
  unfold sf_fpop at hF
  split at hF
  · rename_i v
    split at hF
    · rename_i hv
      cases hF
      exact ⟨fun w hw => by simp at hw, fun p l e R s m args below meth c H locs cells slots Q ls rest hx hb k => lv_pop hx hb hd (sf_cat hv) k⟩
    · cases hF
  · cases hF
