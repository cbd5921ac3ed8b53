/-! locals, branches -/
section SFW
variable {p : Program} {l : Launch} {e : Env} {R : Room} {s : State} {m : MethodId} {args : Array Value} {below : List Frame} {meth : Method} {c : Code} {H : Heap} {locs : List Loc} {cells slots : Nat} {Q : State → Prop}
variable {cc : ByteArray} {pc : Nat} {ls ls' : Array Slot} {rest : List Value}
theorem sf_W_istore_n (hexec : p.tables.exec = Jvm.exec) (hb : c.code = cc) {k : Fin 4} {i : Nat} {x : Int32} (hdg : decode cc pc = .ok (.istore_n k, 1)) (hi : (k : Nat) = i) (e' : storeLocals ls i (.int x) = some ls')
    (kk : W p l e R s m args below meth c H locs cells slots Q (F0 m (pc + 1) ls' rest)) : W p l e R s m args below meth c H locs cells slots Q (F0 m pc ls (.int x :: rest)) := by
  subst hi
  intro T hT X
  obtain ⟨t, a, b⟩ := kk T hT X
  refine ⟨t, ?_, b⟩
  jvm_step X.here [X.here.top, ↓top_set X.here.top, hexec, hb, hdg, e']
  exact a
theorem sf_W_istore (hexec : p.tables.exec = Jvm.exec) (hb : c.code = cc) {i : Nat} {x : Int32} (hdg : decode cc pc = .ok (.istore i, 2)) (e' : storeLocals ls i (.int x) = some ls')
    (kk : W p l e R s m args below meth c H locs cells slots Q (F0 m (pc + 2) ls' rest)) : W p l e R s m args below meth c H locs cells slots Q (F0 m pc ls (.int x :: rest)) := by
  intro T hT X
  obtain ⟨t, a, b⟩ := kk T hT X
  refine ⟨t, ?_, b⟩
  jvm_step X.here [X.here.top, ↓top_set X.here.top, hexec, hb, hdg, e']
  exact a
theorem sf_W_astore_n (hexec : p.tables.exec = Jvm.exec) (hb : c.code = cc) {k : Fin 4} {i : Nat} {x : Nat} (hdg : decode cc pc = .ok (.astore_n k, 1)) (hi : (k : Nat) = i) (e' : storeLocals ls i (.ref x) = some ls')
    (kk : W p l e R s m args below meth c H locs cells slots Q (F0 m (pc + 1) ls' rest)) : W p l e R s m args below meth c H locs cells slots Q (F0 m pc ls (.ref x :: rest)) := by
  subst hi
  intro T hT X
  obtain ⟨t, a, b⟩ := kk T hT X
  refine ⟨t, ?_, b⟩
  jvm_step X.here [X.here.top, ↓top_set X.here.top, hexec, hb, hdg, e', Value.isRef]
  exact a
theorem sf_W_astore (hexec : p.tables.exec = Jvm.exec) (hb : c.code = cc) {i : Nat} {x : Nat} (hdg : decode cc pc = .ok (.astore i, 2)) (e' : storeLocals ls i (.ref x) = some ls')
    (kk : W p l e R s m args below meth c H locs cells slots Q (F0 m (pc + 2) ls' rest)) : W p l e R s m args below meth c H locs cells slots Q (F0 m pc ls (.ref x :: rest)) := by
  intro T hT X
  obtain ⟨t, a, b⟩ := kk T hT X
  refine ⟨t, ?_, b⟩
  jvm_step X.here [X.here.top, ↓top_set X.here.top, hexec, hb, hdg, e', Value.isRef]
  exact a
theorem sf_W_iinc (hexec : p.tables.exec = Jvm.exec) (hb : c.code = cc) {i : Nat} {n : Int} {x : Int32} (hdg : decode cc pc = .ok (.iinc i n, 3)) (hg : ls[i]? = some (.val (.int x))) (e' : storeLocals ls i (.int (x + Int32.ofInt n)) = some ls')
    (kk : W p l e R s m args below meth c H locs cells slots Q (F0 m (pc + 3) ls' rest)) : W p l e R s m args below meth c H locs cells slots Q (F0 m pc ls rest) := by
  intro T hT X
  obtain ⟨t, a, b⟩ := kk T hT X
  refine ⟨t, ?_, b⟩
  jvm_step X.here [X.here.top, ↓top_set X.here.top, hexec, hb, hdg, hg, e']
  exact a
end SFW
def sf_aIld (k nx : Nat) : sf_A := fun _ ls st M => match ls[k]? with
  | some (some (.inl x)) => some (nx, ls, .inl x :: st, M)
  | _ => none
theorem sf_rIld {i : sf_I} {pc nx k : Nat} (h : ∀ (p : Program) (l : Launch) (e : Env) (R : Room) (s : State) (m : MethodId) (args : Array Value) (below : List Frame) (meth : Method) (c : Code) (H : Heap) (locs : List Loc) (cells slots : Nat) (Q : State → Prop) (ls : Array Slot) (rest : List Value) (x : Int32),
    p.tables.exec = Jvm.exec → c.code = i.2.1 → ls[k]? = some (.val (.int x)) → W p l e R s m args below meth c H locs cells slots Q (F0 m nx ls (.int x :: rest)) → W p l e R s m args below meth c H locs cells slots Q (F0 m pc ls rest)) : sf_AS i pc (sf_aIld k nx) := by
  intro g sc ls st M pc' ls' st' M' hf
  unfold sf_aIld at hf
  split at hf
  · rename_i x hl
    cases hf
    refine ⟨⟨Nat.le_refl _, Nat.le_refl _⟩, ?_⟩
    intro d p l e R s m args below meth c Q k0 k1 hC h0 h1 h2 h3 kk H locs larr hR hS hL hok
    obtain ⟨q1, q2⟩ := hL.2.2.2 k _ hl
    exact h p l e R s m args below meth c H locs _ _ Q larr _ _ hC.1 hC.2.1 q1 (kk H locs larr hR hS hL (fun v hv => (List.mem_cons.mp hv).elim (fun z => by rw [z]; exact q2) (hok v)))
  · cases hf
theorem sf_r_iload_n {i : sf_I} {pc k : Nat} {j : Fin 4} (hd : decode i.2.1 pc = .ok (.iload_n j, 1)) (hj : (j : Nat) = k) : sf_AS i pc (sf_aIld k (pc + 1)) :=
  sf_rIld (fun p l e R s m args below meth c H locs cells slots Q ls rest x hx hb hl kk => lv_iload_n hx hb hd hj hl kk)
theorem sf_r_iload {i : sf_I} {pc k : Nat} (hd : decode i.2.1 pc = .ok (.iload k, 2)) : sf_AS i pc (sf_aIld k (pc + 2)) :=
  sf_rIld (fun p l e R s m args below meth c H locs cells slots Q ls rest x hx hb hl kk => lv_iload hx hb hd hl kk)
def sf_aAld (k nx : Nat) : sf_A := fun _ ls st M => match ls[k]? with
  | some (some (.inr (.inl (some a)))) => some (nx, ls, .inr (.inl (some a)) :: st, M)
  | some (some (.inr (.inr (.inr u)))) => some (nx, ls, .inr (.inr (.inr u)) :: st, M)
  | _ => none
theorem sf_rAld {i : sf_I} {pc nx k : Nat} (h : ∀ (p : Program) (l : Launch) (e : Env) (R : Room) (s : State) (m : MethodId) (args : Array Value) (below : List Frame) (meth : Method) (c : Code) (H : Heap) (locs : List Loc) (cells slots : Nat) (Q : State → Prop) (ls : Array Slot) (rest : List Value) (x : Nat),
    p.tables.exec = Jvm.exec → c.code = i.2.1 → ls[k]? = some (.val (.ref x)) → W p l e R s m args below meth c H locs cells slots Q (F0 m nx ls (.ref x :: rest)) → W p l e R s m args below meth c H locs cells slots Q (F0 m pc ls rest)) : sf_AS i pc (sf_aAld k nx) := by
  intro g sc ls st M pc' ls' st' M' hf
  unfold sf_aAld at hf
  split at hf
  · rename_i a hl
    cases hf
    refine ⟨⟨Nat.le_refl _, Nat.le_refl _⟩, ?_⟩
    intro d p l e R s m args below meth c Q k0 k1 hC h0 h1 h2 h3 kk H locs larr hR hS hL hok
    obtain ⟨q1, q2⟩ := hL.2.2.2 k _ hl
    exact h p l e R s m args below meth c H locs _ _ Q larr _ _ hC.1 hC.2.1 q1 (kk H locs larr hR hS hL (fun v hv => (List.mem_cons.mp hv).elim (fun z => by rw [z]; exact q2) (hok v)))
  · rename_i u hl
    cases hf
    refine ⟨⟨Nat.le_refl _, Nat.le_refl _⟩, ?_⟩
    intro d p l e R s m args below meth c Q k0 k1 hC h0 h1 h2 h3 kk H locs larr hR hS hL hok
    obtain ⟨q1, q2⟩ := hL.2.2.2 k _ hl
    exact h p l e R s m args below meth c H locs _ _ Q larr _ _ hC.1 hC.2.1 q1 (kk H locs larr hR hS hL (fun v hv => (List.mem_cons.mp hv).elim (fun z => by rw [z]; exact q2) (hok v)))
  · cases hf
theorem sf_r_aload_n {i : sf_I} {pc k : Nat} {j : Fin 4} (hd : decode i.2.1 pc = .ok (.aload_n j, 1)) (hj : (j : Nat) = k) : sf_AS i pc (sf_aAld k (pc + 1)) :=
  sf_rAld (fun p l e R s m args below meth c H locs cells slots Q ls rest x hx hb hl kk => lv_aload_n hx hb hd hj hl kk)
theorem sf_r_aload {i : sf_I} {pc k : Nat} (hd : decode i.2.1 pc = .ok (.aload k, 2)) : sf_AS i pc (sf_aAld k (pc + 2)) :=
  sf_rAld (fun p l e R s m args below meth c H locs cells slots Q ls rest x hx hb hl kk => lv_aload hx hb hd hl kk)
def sf_aIst (k nx : Nat) : sf_A := fun _ ls st M => match st with
  | .inl x :: r => if k < ls.length then some (nx, ls.set k (some (.inl x)), r, M) else none
  | _ => none
theorem sf_rIst {i : sf_I} {pc nx k : Nat} (h : ∀ (p : Program) (l : Launch) (e : Env) (R : Room) (s : State) (m : MethodId) (args : Array Value) (below : List Frame) (meth : Method) (c : Code) (H : Heap) (locs : List Loc) (cells slots : Nat) (Q : State → Prop) (ls ls' : Array Slot) (rest : List Value) (x : Int32),
    p.tables.exec = Jvm.exec → c.code = i.2.1 → storeLocals ls k (.int x) = some ls' → W p l e R s m args below meth c H locs cells slots Q (F0 m nx ls' rest) → W p l e R s m args below meth c H locs cells slots Q (F0 m pc ls (.int x :: rest))) : sf_AS i pc (sf_aIst k nx) := by
  intro g sc ls st M pc' ls' st' M' hf
  unfold sf_aIst at hf
  split at hf
  · rename_i x r
    split at hf
    · rename_i hk
      cases hf
      refine ⟨⟨Nat.le_refl _, Nat.le_refl _⟩, ?_⟩
      intro d p l e R s m args below meth c Q k0 k1 hC h0 h1 h2 h3 kk H locs larr hR hS hL hok
      obtain ⟨q1, q2⟩ := sf_store hL (i := k) (by rw [← hL.2.1]; exact hk) (v := .inl x) rfl (hok _ List.mem_cons_self)
      exact h p l e R s m args below meth c H locs _ _ Q larr _ _ _ hC.1 hC.2.1 q1 (kk H locs _ hR hS q2 (fun v hv => hok v (List.mem_cons_of_mem _ hv)))
    · cases hf
  · cases hf
theorem sf_r_istore_n {i : sf_I} {pc k : Nat} {j : Fin 4} (hd : decode i.2.1 pc = .ok (.istore_n j, 1)) (hj : (j : Nat) = k) : sf_AS i pc (sf_aIst k (pc + 1)) :=
  sf_rIst (fun p l e R s m args below meth c H locs cells slots Q ls ls' rest x hx hb hl kk => sf_W_istore_n hx hb hd hj hl kk)
theorem sf_r_istore {i : sf_I} {pc k : Nat} (hd : decode i.2.1 pc = .ok (.istore k, 2)) : sf_AS i pc (sf_aIst k (pc + 2)) :=
  sf_rIst (fun p l e R s m args below meth c H locs cells slots Q ls ls' rest x hx hb hl kk => sf_W_istore hx hb hd hl kk)
def sf_aAst (k nx : Nat) : sf_A := fun _ ls st M => match st with
  | .inr (.inl (some a)) :: r => if k < ls.length then some (nx, ls.set k (some (.inr (.inl (some a)))), r, M) else none
  | _ => none
theorem sf_rAst {i : sf_I} {pc nx k : Nat} (h : ∀ (p : Program) (l : Launch) (e : Env) (R : Room) (s : State) (m : MethodId) (args : Array Value) (below : List Frame) (meth : Method) (c : Code) (H : Heap) (locs : List Loc) (cells slots : Nat) (Q : State → Prop) (ls ls' : Array Slot) (rest : List Value) (x : Nat),
    p.tables.exec = Jvm.exec → c.code = i.2.1 → storeLocals ls k (.ref x) = some ls' → W p l e R s m args below meth c H locs cells slots Q (F0 m nx ls' rest) → W p l e R s m args below meth c H locs cells slots Q (F0 m pc ls (.ref x :: rest))) : sf_AS i pc (sf_aAst k nx) := by
  intro g sc ls st M pc' ls' st' M' hf
  unfold sf_aAst at hf
  split at hf
  · rename_i x r
    split at hf
    · rename_i hk
      cases hf
      refine ⟨⟨Nat.le_refl _, Nat.le_refl _⟩, ?_⟩
      intro d p l e R s m args below meth c Q k0 k1 hC h0 h1 h2 h3 kk H locs larr hR hS hL hok
      obtain ⟨q1, q2⟩ := sf_store hL (i := k) (by rw [← hL.2.1]; exact hk) (v := .inr (.inl (some x))) rfl (hok _ List.mem_cons_self)
      exact h p l e R s m args below meth c H locs _ _ Q larr _ _ _ hC.1 hC.2.1 q1 (kk H locs _ hR hS q2 (fun v hv => hok v (List.mem_cons_of_mem _ hv)))
    · cases hf
  · cases hf
theorem sf_r_astore_n {i : sf_I} {pc k : Nat} {j : Fin 4} (hd : decode i.2.1 pc = .ok (.astore_n j, 1)) (hj : (j : Nat) = k) : sf_AS i pc (sf_aAst k (pc + 1)) :=
  sf_rAst (fun p l e R s m args below meth c H locs cells slots Q ls ls' rest x hx hb hl kk => sf_W_astore_n hx hb hd hj hl kk)
theorem sf_r_astore {i : sf_I} {pc k : Nat} (hd : decode i.2.1 pc = .ok (.astore k, 2)) : sf_AS i pc (sf_aAst k (pc + 2)) :=
  sf_rAst (fun p l e R s m args below meth c H locs cells slots Q ls ls' rest x hx hb hl kk => sf_W_astore hx hb hd hl kk)
def sf_aInc (k : Nat) (n : Int) (nx : Nat) : sf_A := fun _ ls st M => match ls[k]? with
  | some (some (.inl x)) => some (nx, ls.set k (some (.inl (sf_w (x + n)))), st, M)
  | _ => none
theorem sf_r_iinc {i : sf_I} {pc k : Nat} {n : Int} (hd : decode i.2.1 pc = .ok (.iinc k n, 3)) : sf_AS i pc (sf_aInc k n (pc + 3)) := by
  intro g sc ls st M pc' ls' st' M' hf
  unfold sf_aInc at hf
  split at hf
  · rename_i x hl
    cases hf
    refine ⟨⟨Nat.le_refl _, Nat.le_refl _⟩, ?_⟩
    intro d p l e R s m args below meth c Q k0 k1 hC h0 h1 h2 h3 kk H locs larr hR hS hL hok
    obtain ⟨q1, q2⟩ := hL.2.2.2 k _ hl
    have hk : k < i.2.2.1 := by rw [← hL.2.1]; exact (List.getElem?_eq_some_iff.mp hl).1
    obtain ⟨q3, q4⟩ := sf_store hL (i := k) hk (v := .inl (sf_w (x + n))) rfl (sf_w_ok _)
    refine sf_W_iinc hC.1 hC.2.1 hd q1 ?_ (kk H locs _ hR hS q4 hok)
    rw [← q3]
    show storeLocals larr k (.int _) = storeLocals larr k (.int _)
    rw [sf_w_32, Int32.ofInt_add]
  · cases hf
def sf_aGo (tgt : Nat) : sf_A := fun _ ls st M => some (tgt, ls, st, M)
theorem sf_r_goto {i : sf_I} {pc tgt : Nat} {off : Int} (hd : decode i.2.1 pc = .ok (.goto off, 3)) (ht : (pc : Int) + off = (tgt : Int)) : sf_AS i pc (sf_aGo tgt) := by
  intro g sc ls st M pc' ls' st' M' hf
  cases hf
  refine ⟨⟨Nat.le_refl _, Nat.le_refl _⟩, ?_⟩
  intro d p l e R s m args below meth c Q k0 k1 hC h0 h1 h2 h3 kk H locs larr hR hS hL hok
  exact lv_goto hC.1 hC.2.1 hd ht (kk H locs larr hR hS hL hok)
def sf_aB1 (P : Int → Bool) (tgt nx : Nat) : sf_A := fun _ ls st M => match st with
  | .inl x :: r => some (if P x = true then tgt else nx, ls, r, M)
  | _ => none
theorem sf_rB1 {i : sf_I} {pc tgt nx : Nat} {P : Int → Bool} (h : ∀ (p : Program) (l : Launch) (e : Env) (R : Room) (s : State) (m : MethodId) (args : Array Value) (below : List Frame) (meth : Method) (c : Code) (H : Heap) (locs : List Loc) (cells slots : Nat) (Q : State → Prop) (ls : Array Slot) (rest : List Value) (x : Int),
    p.tables.exec = Jvm.exec → c.code = i.2.1 → sf_oi x → (P x = true → W p l e R s m args below meth c H locs cells slots Q (F0 m tgt ls rest)) → (¬ P x = true → W p l e R s m args below meth c H locs cells slots Q (F0 m nx ls rest)) → W p l e R s m args below meth c H locs cells slots Q (F0 m pc ls (.int (Int32.ofInt x) :: rest))) : sf_AS i pc (sf_aB1 P tgt nx) := by
  intro g sc ls st M pc' ls' st' M' hf
  unfold sf_aB1 at hf
  split at hf
  · rename_i x r
    cases hf
    refine ⟨⟨Nat.le_refl _, Nat.le_refl _⟩, ?_⟩
    intro d p l e R s m args below meth c Q k0 k1 hC h0 h1 h2 h3 kk H locs larr hR hS hL hok
    have k2 := kk H locs larr hR hS hL (fun v hv => hok v (List.mem_cons_of_mem _ hv))
    exact h p l e R s m args below meth c H locs _ _ Q larr _ x hC.1 hC.2.1 (hok (.inl x) List.mem_cons_self) (fun z => by rw [if_pos z] at k2; exact k2) (fun z => by rw [if_neg z] at k2; exact k2)
  · cases hf
def sf_eq0 (x : Int) : Bool := decide (x = 0)
def sf_ne0b (x : Int) : Bool := decide (x ≠ 0)
def sf_lt0 (x : Int) : Bool := decide (x < 0)
def sf_ge0 (x : Int) : Bool := decide (0 ≤ x)
def sf_gt0 (x : Int) : Bool := decide (0 < x)
def sf_le0 (x : Int) : Bool := decide (x ≤ 0)
theorem sf_oi0 : sf_oi 0 := by unfold sf_oi; omega
theorem sf_z32 : (0 : Int32) = Int32.ofInt 0 := rfl
theorem sf_r_ifeq {i : sf_I} {pc tgt : Nat} {off : Int} (hd : decode i.2.1 pc = .ok (.ifCond .eq off, 3)) (ht : (pc : Int) + off = (tgt : Int)) : sf_AS i pc (sf_aB1 sf_eq0 tgt (pc + 3)) :=
  sf_rB1 (fun p l e R s m args below meth c H locs cells slots Q ls rest x hx hb h0 h1 h2 => lv_if_eq hx hb hd ht (fun z => h1 (by rw [sf_z32, sf_eq32 h0 sf_oi0] at z; simpa [sf_eq0] using z)) (fun z => h2 (by rw [sf_z32, sf_eq32 h0 sf_oi0] at z; simpa [sf_eq0] using z)))
theorem sf_r_ifne {i : sf_I} {pc tgt : Nat} {off : Int} (hd : decode i.2.1 pc = .ok (.ifCond .ne off, 3)) (ht : (pc : Int) + off = (tgt : Int)) : sf_AS i pc (sf_aB1 sf_ne0b tgt (pc + 3)) :=
  sf_rB1 (fun p l e R s m args below meth c H locs cells slots Q ls rest x hx hb h0 h1 h2 => lv_if_ne hx hb hd ht (fun z => h1 (by rw [sf_z32, sf_eq32 h0 sf_oi0] at z; simpa [sf_ne0b] using z)) (fun z => h2 (by rw [sf_z32, sf_eq32 h0 sf_oi0] at z; simpa [sf_ne0b] using z)))
theorem sf_r_iflt {i : sf_I} {pc tgt : Nat} {off : Int} (hd : decode i.2.1 pc = .ok (.ifCond .lt off, 3)) (ht : (pc : Int) + off = (tgt : Int)) : sf_AS i pc (sf_aB1 sf_lt0 tgt (pc + 3)) :=
  sf_rB1 (fun p l e R s m args below meth c H locs cells slots Q ls rest x hx hb h0 h1 h2 => lv_if_lt hx hb hd ht (fun z => h1 (by rw [sf_z32, sf_lt32 h0 sf_oi0] at z; simpa [sf_lt0] using z)) (fun z => h2 (by rw [sf_z32, sf_lt32 h0 sf_oi0] at z; simpa [sf_lt0] using z)))
theorem sf_r_ifge {i : sf_I} {pc tgt : Nat} {off : Int} (hd : decode i.2.1 pc = .ok (.ifCond .ge off, 3)) (ht : (pc : Int) + off = (tgt : Int)) : sf_AS i pc (sf_aB1 sf_ge0 tgt (pc + 3)) :=
  sf_rB1 (fun p l e R s m args below meth c H locs cells slots Q ls rest x hx hb h0 h1 h2 => lv_if_ge hx hb hd ht (fun z => h1 (by first | (rw [sf_z32, sf_le32 sf_oi0 h0] at z; simpa [sf_ge0] using z) | (rw [sf_z32, sf_lt32 h0 sf_oi0] at z; simpa [sf_ge0] using z) | (rw [sf_z32, ge_iff_le, sf_le32 sf_oi0 h0] at z; simpa [sf_ge0] using z))) (fun z => h2 (by first | (rw [sf_z32, sf_le32 sf_oi0 h0] at z; simpa [sf_ge0] using z) | (rw [sf_z32, sf_lt32 h0 sf_oi0] at z; simpa [sf_ge0] using z) | (rw [sf_z32, ge_iff_le, sf_le32 sf_oi0 h0] at z; simpa [sf_ge0] using z))))
theorem sf_r_ifgt {i : sf_I} {pc tgt : Nat} {off : Int} (hd : decode i.2.1 pc = .ok (.ifCond .gt off, 3)) (ht : (pc : Int) + off = (tgt : Int)) : sf_AS i pc (sf_aB1 sf_gt0 tgt (pc + 3)) :=
  sf_rB1 (fun p l e R s m args below meth c H locs cells slots Q ls rest x hx hb h0 h1 h2 => lv_if_gt hx hb hd ht (fun z => h1 (by first | (rw [sf_z32, sf_lt32 sf_oi0 h0] at z; simpa [sf_gt0] using z) | (rw [sf_z32, gt_iff_lt, sf_lt32 sf_oi0 h0] at z; simpa [sf_gt0] using z) | (rw [sf_z32, sf_le32 h0 sf_oi0] at z; simpa [sf_gt0] using z))) (fun z => h2 (by first | (rw [sf_z32, sf_lt32 sf_oi0 h0] at z; simpa [sf_gt0] using z) | (rw [sf_z32, gt_iff_lt, sf_lt32 sf_oi0 h0] at z; simpa [sf_gt0] using z) | (rw [sf_z32, sf_le32 h0 sf_oi0] at z; simpa [sf_gt0] using z))))
theorem sf_r_ifle {i : sf_I} {pc tgt : Nat} {off : Int} (hd : decode i.2.1 pc = .ok (.ifCond .le off, 3)) (ht : (pc : Int) + off = (tgt : Int)) : sf_AS i pc (sf_aB1 sf_le0 tgt (pc + 3)) :=
  sf_rB1 (fun p l e R s m args below meth c H locs cells slots Q ls rest x hx hb h0 h1 h2 => lv_if_le hx hb hd ht (fun z => h1 (by first | (rw [sf_z32, sf_le32 h0 sf_oi0] at z; simpa [sf_le0] using z) | (rw [sf_z32, sf_lt32 sf_oi0 h0] at z; simpa [sf_le0] using z))) (fun z => h2 (by first | (rw [sf_z32, sf_le32 h0 sf_oi0] at z; simpa [sf_le0] using z) | (rw [sf_z32, sf_lt32 sf_oi0 h0] at z; simpa [sf_le0] using z))))
def sf_aB2 (P : Int → Int → Bool) (tgt nx : Nat) : sf_A := fun _ ls st M => match st with
  | .inl y :: .inl x :: r => some (if P x y = true then tgt else nx, ls, r, M)
  | _ => none
theorem sf_rB2 {i : sf_I} {pc tgt nx : Nat} {P : Int → Int → Bool} (h : ∀ (p : Program) (l : Launch) (e : Env) (R : Room) (s : State) (m : MethodId) (args : Array Value) (below : List Frame) (meth : Method) (c : Code) (H : Heap) (locs : List Loc) (cells slots : Nat) (Q : State → Prop) (ls : Array Slot) (rest : List Value) (x y : Int),
    p.tables.exec = Jvm.exec → c.code = i.2.1 → sf_oi x → sf_oi y → (P x y = true → W p l e R s m args below meth c H locs cells slots Q (F0 m tgt ls rest)) → (¬ P x y = true → W p l e R s m args below meth c H locs cells slots Q (F0 m nx ls rest)) → W p l e R s m args below meth c H locs cells slots Q (F0 m pc ls (.int (Int32.ofInt y) :: .int (Int32.ofInt x) :: rest))) : sf_AS i pc (sf_aB2 P tgt nx) := by
  intro g sc ls st M pc' ls' st' M' hf
  unfold sf_aB2 at hf
  split at hf
  · rename_i y x r
    cases hf
    refine ⟨⟨Nat.le_refl _, Nat.le_refl _⟩, ?_⟩
    intro d p l e R s m args below meth c Q k0 k1 hC h0 h1 h2 h3 kk H locs larr hR hS hL hok
    have k2 := kk H locs larr hR hS hL (fun v hv => hok v (List.mem_cons_of_mem _ (List.mem_cons_of_mem _ hv)))
    exact h p l e R s m args below meth c H locs _ _ Q larr _ x y hC.1 hC.2.1 (hok (.inl x) (List.mem_cons_of_mem _ List.mem_cons_self)) (hok (.inl y) List.mem_cons_self) (fun z => by rw [if_pos z] at k2; exact k2) (fun z => by rw [if_neg z] at k2; exact k2)
  · cases hf
def sf_beq (x y : Int) : Bool := decide (x = y)
def sf_bne (x y : Int) : Bool := decide (x ≠ y)
def sf_blt (x y : Int) : Bool := decide (x < y)
def sf_bge (x y : Int) : Bool := decide (y ≤ x)
def sf_bgt (x y : Int) : Bool := decide (y < x)
def sf_ble (x y : Int) : Bool := decide (x ≤ y)
theorem sf_r_icmpeq {i : sf_I} {pc tgt : Nat} {off : Int} (hd : decode i.2.1 pc = .ok (.if_icmp .eq off, 3)) (ht : (pc : Int) + off = (tgt : Int)) : sf_AS i pc (sf_aB2 sf_beq tgt (pc + 3)) :=
  sf_rB2 (fun p l e R s m args below meth c H locs cells slots Q ls rest x y hx hb h0 h9 h1 h2 => lv_icmp_eq hx hb hd ht (fun z => h1 (by rw [sf_eq32 h0 h9] at z; simpa [sf_beq] using z)) (fun z => h2 (by rw [sf_eq32 h0 h9] at z; simpa [sf_beq] using z)))
theorem sf_r_icmpne {i : sf_I} {pc tgt : Nat} {off : Int} (hd : decode i.2.1 pc = .ok (.if_icmp .ne off, 3)) (ht : (pc : Int) + off = (tgt : Int)) : sf_AS i pc (sf_aB2 sf_bne tgt (pc + 3)) :=
  sf_rB2 (fun p l e R s m args below meth c H locs cells slots Q ls rest x y hx hb h0 h9 h1 h2 => lv_icmp_ne hx hb hd ht (fun z => h1 (by rw [sf_eq32 h0 h9] at z; simpa [sf_bne] using z)) (fun z => h2 (by rw [sf_eq32 h0 h9] at z; simpa [sf_bne] using z)))
theorem sf_r_icmplt {i : sf_I} {pc tgt : Nat} {off : Int} (hd : decode i.2.1 pc = .ok (.if_icmp .lt off, 3)) (ht : (pc : Int) + off = (tgt : Int)) : sf_AS i pc (sf_aB2 sf_blt tgt (pc + 3)) :=
  sf_rB2 (fun p l e R s m args below meth c H locs cells slots Q ls rest x y hx hb h0 h9 h1 h2 => lv_icmp_lt hx hb hd ht (fun z => h1 (by rw [sf_lt32 h0 h9] at z; simpa [sf_blt] using z)) (fun z => h2 (by rw [sf_lt32 h0 h9] at z; simpa [sf_blt] using z)))
theorem sf_r_icmpge {i : sf_I} {pc tgt : Nat} {off : Int} (hd : decode i.2.1 pc = .ok (.if_icmp .ge off, 3)) (ht : (pc : Int) + off = (tgt : Int)) : sf_AS i pc (sf_aB2 sf_bge tgt (pc + 3)) :=
  sf_rB2 (fun p l e R s m args below meth c H locs cells slots Q ls rest x y hx hb h0 h9 h1 h2 => lv_icmp_ge hx hb hd ht (fun z => h1 (by first | (rw [sf_le32 h9 h0] at z; simpa [sf_bge] using z) | (rw [ge_iff_le, sf_le32 h9 h0] at z; simpa [sf_bge] using z) | (rw [sf_lt32 h0 h9] at z; simpa [sf_bge] using z))) (fun z => h2 (by first | (rw [sf_le32 h9 h0] at z; simpa [sf_bge] using z) | (rw [ge_iff_le, sf_le32 h9 h0] at z; simpa [sf_bge] using z) | (rw [sf_lt32 h0 h9] at z; simpa [sf_bge] using z))))
theorem sf_r_icmpgt {i : sf_I} {pc tgt : Nat} {off : Int} (hd : decode i.2.1 pc = .ok (.if_icmp .gt off, 3)) (ht : (pc : Int) + off = (tgt : Int)) : sf_AS i pc (sf_aB2 sf_bgt tgt (pc + 3)) :=
  sf_rB2 (fun p l e R s m args below meth c H locs cells slots Q ls rest x y hx hb h0 h9 h1 h2 => lv_icmp_gt hx hb hd ht (fun z => h1 (by first | (rw [sf_lt32 h9 h0] at z; simpa [sf_bgt] using z) | (rw [gt_iff_lt, sf_lt32 h9 h0] at z; simpa [sf_bgt] using z) | (rw [sf_le32 h0 h9] at z; simpa [sf_bgt] using z))) (fun z => h2 (by first | (rw [sf_lt32 h9 h0] at z; simpa [sf_bgt] using z) | (rw [gt_iff_lt, sf_lt32 h9 h0] at z; simpa [sf_bgt] using z) | (rw [sf_le32 h0 h9] at z; simpa [sf_bgt] using z))))
theorem sf_r_icmple {i : sf_I} {pc tgt : Nat} {off : Int} (hd : decode i.2.1 pc = .ok (.if_icmp .le off, 3)) (ht : (pc : Int) + off = (tgt : Int)) : sf_AS i pc (sf_aB2 sf_ble tgt (pc + 3)) :=
  sf_rB2 (fun p l e R s m args below meth c H locs cells slots Q ls rest x y hx hb h0 h9 h1 h2 => lv_icmp_le hx hb hd ht (fun z => h1 (by first | (rw [sf_le32 h0 h9] at z; simpa [sf_ble] using z) | (rw [sf_lt32 h9 h0] at z; simpa [sf_ble] using z))) (fun z => h2 (by first | (rw [sf_le32 h0 h9] at z; simpa [sf_ble] using z) | (rw [sf_lt32 h9 h0] at z; simpa [sf_ble] using z))))
def sf_aTs (pc : Nat) (dflt lo hi : Int) (offs : List Int) : sf_A := fun _ ls st M => match st with
  | .inl x :: r => some (((pc : Int) + (if x < lo ∨ hi < x then dflt else offs.getD (x - lo).toNat 0)).toNat, ls, r, M)
  | _ => none
theorem sf_r_table {i : sf_I} {pc len : Nat} {dflt lo hi : Int} {offs : List Int} (hd : decode i.2.1 pc = .ok (.tableswitch dflt lo hi offs.toArray, len)) (h1 : 0 ≤ (pc : Int) + dflt) (h2 : ∀ o ∈ offs, 0 ≤ (pc : Int) + o) (h3 : hi - lo + 1 = offs.length) : sf_AS i pc (sf_aTs pc dflt lo hi offs) := by
  intro g sc ls st M pc' ls' st' M' hf
  unfold sf_aTs at hf
  split at hf
  · rename_i x r
    cases hf
    refine ⟨⟨Nat.le_refl _, Nat.le_refl _⟩, ?_⟩
    intro d p l e R s m args below meth c Q k0 k1 hC h0 h1' h2' h3' kk H locs larr hR hS hL hok
    have k2 := kk H locs larr hR hS hL (fun v hv => hok v (List.mem_cons_of_mem _ hv))
    have hxo : sf_oi x := hok (.inl x) List.mem_cons_self
    by_cases hc : x < lo ∨ hi < x
    · rw [if_pos hc] at k2
      refine lv_tableOut hC.1 hC.2.1 hd (by rw [sf_toI hxo]; exact hc) (tgt := ((pc : Int) + dflt).toNat) (by omega) k2
    · rw [if_neg hc] at k2
      have hlt : (x - lo).toNat < offs.length := by omega
      have hg : offs.getD (x - lo).toNat 0 = offs[(x - lo).toNat] := by simp [List.getD, List.getElem?_eq_getElem hlt]
      have hp := h2 offs[(x - lo).toNat] (List.getElem_mem hlt)
      rw [hg] at k2
      refine lv_tableIn hC.1 hC.2.1 hd (by rw [sf_toI hxo]; omega) (by rw [sf_toI hxo]; omega) (off := offs[(x - lo).toNat]) (by rw [sf_toI hxo]; simp [hlt]) (tgt := ((pc : Int) + offs[(x - lo).toNat]).toNat) (by omega) k2
  · cases hf
def sf_aLs (pc : Nat) (dflt : Int) (ps : List (Int × Int)) : sf_A := fun _ ls st M => match st with
  | .inl x :: r => some (((pc : Int) + Op.lookupswitch.offset ps dflt x).toNat, ls, r, M)
  | _ => none
theorem sf_r_lookup {i : sf_I} {pc len : Nat} {dflt : Int} {ps : List (Int × Int)} (hd : decode i.2.1 pc = .ok (.lookupswitch dflt ps.toArray, len)) (hp : (ps.zip (ps.drop 1)).all (fun (a, next) => a.1 < next.1) = true) (h1 : ∀ x : Int, 0 ≤ (pc : Int) + Op.lookupswitch.offset ps dflt x) : sf_AS i pc (sf_aLs pc dflt ps) := by
  intro g sc ls st M pc' ls' st' M' hf
  unfold sf_aLs at hf
  split at hf
  · rename_i x r
    cases hf
    refine ⟨⟨Nat.le_refl _, Nat.le_refl _⟩, ?_⟩
    intro d p l e R s m args below meth c Q k0 k1 hC h0 h1' h2' h3' kk H locs larr hR hS hL hok
    have k2 := kk H locs larr hR hS hL (fun v hv => hok v (List.mem_cons_of_mem _ hv))
    have hxo : sf_oi x := hok (.inl x) List.mem_cons_self
    have := h1 x
    exact lv_lookup hC.1 hC.2.1 hd hp (off := Op.lookupswitch.offset ps dflt x) (by rw [sf_toI hxo]) (tgt := ((pc : Int) + Op.lookupswitch.offset ps dflt x).toNat) (by omega) k2
  · cases hf
def sf_aNul (tgt nx : Nat) : sf_A := fun _ ls st M => match st with
  | .inr (.inl (some _)) :: r => some (nx, ls, r, M)
  | .inr (.inl none) :: r => some (tgt, ls, r, M)
  | _ => none
theorem sf_r_ifnull {i : sf_I} {pc tgt : Nat} {off : Int} (hd : decode i.2.1 pc = .ok (.ifnull off, 3)) (ht : (pc : Int) + off = (tgt : Int)) : sf_AS i pc (sf_aNul tgt (pc + 3)) := by
  intro g sc ls st M pc' ls' st' M' hf
  unfold sf_aNul at hf
  split at hf
  · cases hf
    refine ⟨⟨Nat.le_refl _, Nat.le_refl _⟩, ?_⟩
    intro d p l e R s m args below meth c Q k0 k1 hC h0 h1' h2' h3' kk H locs larr hR hS hL hok
    exact lv_ifnull hC.1 hC.2.1 hd (kk H locs larr hR hS hL (fun v hv => hok v (List.mem_cons_of_mem _ hv)))
  · cases hf
    refine ⟨⟨Nat.le_refl _, Nat.le_refl _⟩, ?_⟩
    intro d p l e R s m args below meth c Q k0 k1 hC h0 h1' h2' h3' kk H locs larr hR hS hL hok
    exact lv_ifnullN hC.1 hC.2.1 hd ht (kk H locs larr hR hS hL (fun v hv => hok v (List.mem_cons_of_mem _ hv)))
  · cases hf
