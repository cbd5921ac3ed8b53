/-- the words of the tables that any state keeps; those of nest mates and of the array of stoves go with the classes -/
def sf_tb : List Cond := lw_tbl.filter goodWord
theorem sf_mem {w : Cond} (h : w ∈ lw_tbl) (hg : goodWord w = true) : w ∈ sf_tb := List.mem_filter.mpr ⟨h, hg⟩
theorem sf_good : GoodIn sf_tb sf_tb := fun w h => ⟨h, good_of_word (List.mem_filter.mp h).2⟩
theorem inX0 : ∀ w ∈ u_ws RX0 TX0 3, w ∈ sf_tb := fun w h => sf_mem (jnX0 w h) (List.all_eq_true.mp (show (u_ws RX0 TX0 3).all goodWord = true by decide +kernel) w h)
theorem inX1 : ∀ w ∈ u_ws RX1 TX1 6, w ∈ sf_tb := fun w h => sf_mem (jnX1 w h) (List.all_eq_true.mp (show (u_ws RX1 TX1 6).all goodWord = true by decide +kernel) w h)
theorem inX2 : ∀ w ∈ u_ws RX2 TX2 8, w ∈ sf_tb := fun w h => sf_mem (jnX2 w h) (List.all_eq_true.mp (show (u_ws RX2 TX2 8).all goodWord = true by decide +kernel) w h)
theorem inX3 : ∀ w ∈ u_ws RX3 TX3 5, w ∈ sf_tb := fun w h => sf_mem (jnX3 w h) (List.all_eq_true.mp (show (u_ws RX3 TX3 5).all goodWord = true by decide +kernel) w h)
theorem inX4 : ∀ w ∈ u_ws RX4 TX4 3, w ∈ sf_tb := fun w h => sf_mem (jnX4 w h) (List.all_eq_true.mp (show (u_ws RX4 TX4 3).all goodWord = true by decide +kernel) w h)
theorem inX5 : ∀ w ∈ u_ws RX5 TX5 11, w ∈ sf_tb := fun w h => sf_mem (jnX5 w h) (List.all_eq_true.mp (show (u_ws RX5 TX5 11).all goodWord = true by decide +kernel) w h)
theorem inX6 : ∀ w ∈ u_ws RX6 TX6 6, w ∈ sf_tb := fun w h => sf_mem (jnX6 w h) (List.all_eq_true.mp (show (u_ws RX6 TX6 6).all goodWord = true by decide +kernel) w h)
theorem inX7 : ∀ w ∈ u_ws RX7 TX7 1, w ∈ sf_tb := fun w h => sf_mem (jnX7 w h) (List.all_eq_true.mp (show (u_ws RX7 TX7 1).all goodWord = true by decide +kernel) w h)
theorem inX8 : ∀ w ∈ u_ws RX8 TX8 2, w ∈ sf_tb := fun w h => sf_mem (jnX8 w h) (List.all_eq_true.mp (show (u_ws RX8 TX8 2).all goodWord = true by decide +kernel) w h)
theorem inX9 : ∀ w ∈ u_ws RX9 TX9 6, w ∈ sf_tb := fun w h => sf_mem (jnX9 w h) (List.all_eq_true.mp (show (u_ws RX9 TX9 6).all goodWord = true by decide +kernel) w h)
theorem inX10 : ∀ w ∈ u_ws RX10 TX10 8, w ∈ sf_tb := fun w h => sf_mem (jnX10 w h) (List.all_eq_true.mp (show (u_ws RX10 TX10 8).all goodWord = true by decide +kernel) w h)
theorem inX11 : ∀ w ∈ u_ws RX11 TX11 14, w ∈ sf_tb := fun w h => sf_mem (jnX11 w h) (List.all_eq_true.mp (show (u_ws RX11 TX11 14).all goodWord = true by decide +kernel) w h)
theorem inX12 : ∀ w ∈ u_ws RX12 TX12 40, w ∈ sf_tb := fun w h => sf_mem (jnX12 w h) (List.all_eq_true.mp (show (u_ws RX12 TX12 40).all goodWord = true by decide +kernel) w h)
def sf_nest : List (String × Nat × MethodName × String) := [("StoveFavours", 9, ⟨"StoveFavours$Text", "<init>", "()V"⟩, "StoveFavours"), ("StoveFavours", 25, ⟨"StoveFavours$Stove", "<init>", "()V"⟩, "StoveFavours"), ("StoveFavours", 35, ⟨"StoveFavours$Past", "<init>", "()V"⟩, "StoveFavours"), ("StoveFavours$Shelf", 9, ⟨"StoveFavours$Stove", "<init>", "()V"⟩, "StoveFavours"), ("StoveFavours", 61, ⟨"StoveFavours$Notes", "<init>", "()V"⟩, "StoveFavours"), ("StoveFavours", 68, ⟨"StoveFavours$Book", "<init>", "()V"⟩, "StoveFavours"), ("StoveFavours", 75, ⟨"StoveFavours$Planner", "<init>", "()V"⟩, "StoveFavours"), ("StoveFavours", 82, ⟨"StoveFavours$Contest", "<init>", "()V"⟩, "StoveFavours"), ("StoveFavours", 89, ⟨"StoveFavours$Rounds", "<init>", "()V"⟩, "StoveFavours"), ("StoveFavours$Rounds", 11, ⟨"StoveFavours$Stove", "<init>", "()V"⟩, "StoveFavours")]
def sf_KK (D : va_G) (tys : List (ClassId × FieldType)) (U : State) : Prop := va_K D vwCl tys U ∧ (∀ q ∈ sf_nest, va_Nw (.methodLinkNest q.1 q.2.1 q.2.2.1 q.2.2.2) U) ∧ va_AO "StoveFavours$Stove" U
theorem sf_KK.moved {D : va_G} {tys : List (ClassId × FieldType)} {s U : State} (hW : s.WarmedH U.vm) (h : sf_KK D tys s) : sf_KK D tys U := ⟨va_K.moved hW.alike h.1, fun q hq => va_Nw.warmM hW (h.2.1 q hq), h.2.2.moved hW.alike⟩
theorem sf_KK.same {D : va_G} {tys : List (ClassId × FieldType)} {u U : State} (e : u.vm = U.vm) (h : sf_KK D tys u) : sf_KK D tys U := ⟨va_K.moved (by rw [e]; exact Vm.Alike.refl U.vm) h.1, fun q hq => va_Nw.same rfl e (h.2.1 q hq), h.2.2.moved (by rw [e]; exact Vm.Alike.refl U.vm)⟩
/-! AN INTERPRETER OF MY OWN over whole numbers: a value is an int, a reference (a place in the made cells, or null), a long, or the script; the memory is the list of all cells made since the law's entry. Each instruction is an action; 'Sound' says that the machine follows it. -/
abbrev sf_V : Type := Int ⊕ (Option Nat) ⊕ Int ⊕ Unit
abbrev sf_C : Type := (Nat × List sf_V) ⊕ (Nat × List Int) ⊕ List (Option Nat)
abbrev sf_M : Type := List sf_C
abbrev sf_L : Type := List (Option sf_V)
abbrev sf_A : Type := Option (List Int) → sf_L → List sf_V → sf_M → Option (Nat × sf_L × List sf_V × sf_M)
abbrev sf_Act : Type := sf_A ⊕ (Nat × Nat × Nat × Nat) ⊕ Nat
abbrev sf_G : Type := Nat × Nat × va_G × (Nat → ClassId)
abbrev sf_I : Type := MethodName × ByteArray × Nat × Option FieldType
def sf_oi (n : Int) : Prop := -2147483648 ≤ n ∧ n ≤ 2147483647
def sf_ol (n : Int) : Prop := -9223372036854775808 ≤ n ∧ n ≤ 9223372036854775807
/-- what an int keeps of a number -/
def sf_w (n : Int) : Int := if -2147483648 ≤ n ∧ n ≤ 2147483647 then n else (Int32.ofInt n).toInt
def sf_wl (n : Int) : Int := if -9223372036854775808 ≤ n ∧ n ≤ 9223372036854775807 then n else (Int64.ofInt n).toInt
theorem sf_toI {n : Int} (h : sf_oi n) : (Int32.ofInt n).toInt = n := Int32.toInt_ofInt_of_le (by have := h.1; omega) (by have := h.2; omega)
theorem sf_toL {n : Int} (h : sf_ol n) : (Int64.ofInt n).toInt = n := Int64.toInt_ofInt_of_le (by have := h.1; omega) (by have := h.2; omega)
theorem sf_oiT (x : Int32) : sf_oi x.toInt := ⟨by have := Int32.le_toInt x; omega, by have := Int32.toInt_lt x; omega⟩
theorem sf_olT (x : Int64) : sf_ol x.toInt := ⟨by have := Int64.le_toInt x; omega, by have := Int64.toInt_lt x; omega⟩
theorem sf_w_of {n : Int} (h : sf_oi n) : sf_w n = n := if_pos h
theorem sf_wl_of {n : Int} (h : sf_ol n) : sf_wl n = n := if_pos h
theorem sf_w_ok (n : Int) : sf_oi (sf_w n) := by
  unfold sf_w
  split
  · assumption
  · exact sf_oiT _
theorem sf_wl_ok (n : Int) : sf_ol (sf_wl n) := by
  unfold sf_wl
  split
  · assumption
  · exact sf_olT _
theorem sf_w_32 (n : Int) : Int32.ofInt (sf_w n) = Int32.ofInt n := by
  unfold sf_w
  split
  · rfl
  · exact Int32.ofInt_toInt _
theorem sf_wl_64 (n : Int) : Int64.ofInt (sf_wl n) = Int64.ofInt n := by
  unfold sf_wl
  split
  · rfl
  · exact Int64.ofInt_toInt _
theorem sf_lt32 {x y : Int} (hx : sf_oi x) (hy : sf_oi y) : Int32.ofInt x < Int32.ofInt y ↔ x < y := by rw [Int32.lt_iff_toInt_lt, sf_toI hx, sf_toI hy]
theorem sf_le32 {x y : Int} (hx : sf_oi x) (hy : sf_oi y) : Int32.ofInt x ≤ Int32.ofInt y ↔ x ≤ y := by rw [Int32.le_iff_toInt_le, sf_toI hx, sf_toI hy]
theorem sf_eq32 {x y : Int} (hx : sf_oi x) (hy : sf_oi y) : Int32.ofInt x = Int32.ofInt y ↔ x = y := ⟨fun h => by rw [← sf_toI hx, h, sf_toI hy], fun h => by rw [h]⟩
theorem sf_lt64 {x y : Int} (hx : sf_ol x) (hy : sf_ol y) : Int64.ofInt x < Int64.ofInt y ↔ x < y := by rw [Int64.lt_iff_toInt_lt, sf_toL hx, sf_toL hy]
theorem sf_eq64 {x y : Int} (hx : sf_ol x) (hy : sf_ol y) : Int64.ofInt x = Int64.ofInt y ↔ x = y := ⟨fun h => by rw [← sf_toL hx, h, sf_toL hy], fun h => by rw [h]⟩
theorem sf_ofT (x : Int32) : Int32.ofInt x.toInt = x := Int32.ofInt_toInt x
theorem sf_ofT64 (x : Int64) : Int64.ofInt x.toInt = x := Int64.ofInt_toInt x
/-- the number behind an index -/
theorem sf_clamp {x : Int} (h : sf_oi x) (h0 : 0 ≤ x) : (Int32.ofInt x).toNatClampNeg = x.toNat := by
  rw [Int32.toNatClampNeg, sf_toI h]
def sf_ok : sf_V → Prop
  | .inl n => sf_oi n
  | .inr (.inr (.inl n)) => sf_ol n
  | _ => True
def sf_okC : sf_C → Prop
  | .inl o => ∀ v ∈ o.2, sf_ok v
  | .inr (.inl a) => ∀ x ∈ a.2, sf_oi x
  | .inr (.inr _) => True
def sf_cv (g : sf_G) : sf_V → Value
  | .inl n => .int (Int32.ofInt n)
  | .inr (.inl none) => .null
  | .inr (.inl (some a)) => .ref (g.1 + a)
  | .inr (.inr (.inl n)) => .long (Int64.ofInt n)
  | .inr (.inr (.inr _)) => .ref g.2.1
/-- not a long -/
def sf_c1 : sf_V → Bool
  | .inr (.inr (.inl _)) => false
  | _ => true
def sf_enc (g : sf_G) : sf_C → va_E
  | .inl o => .inr (o.1, o.2.map (sf_cv g))
  | .inr (.inl a) => .inl (g.2.2.2 a.1, a.2.length, .inl (fun j => Int32.ofInt (a.2.getD j 0)))
  | .inr (.inr r) => .inl (g.2.2.2 2, r.length, .inr (.inr (.inr (.inr (fun j => (r.getD j none).map (fun a => g.1 + a))))))
def sf_wld (g : sf_G) (M : sf_M) : va_W := M.mapIdx (fun i e => (g.1 + i, sf_enc g e))
def sf_tys (g : sf_G) : List (ClassId × FieldType) := [(g.2.2.2 0, .int), (g.2.2.2 1, .boolean), (g.2.2.2 2, .object "StoveFavours$Stove")]
/-- slots of a cell, of all cells -/
def sf_sz : sf_C → Nat
  | .inl o => o.2.length
  | .inr (.inl a) => a.2.length
  | .inr (.inr r) => r.length
def sf_sl (M : sf_M) : Nat := (M.map sf_sz).sum
def sf_Rel (g : sf_G) (M : sf_M) (H : Heap) : Prop := H.size = g.1 + M.length ∧ va_P g.2.2.1 vwCl (sf_wld g M) H ∧ ∀ c ∈ M, sf_okC c
def sf_Sc (g : sf_G) (sc : Option (List Int)) (s : State) : Prop := ∀ xs : List Int, sc = some xs → va_X g.2.1 xs.length (fun j => Int32.ofInt (xs.getD j 0)) s s.heap ∧ g.2.1 < s.heap.size ∧ g.2.1 < g.1 ∧ xs.length ≤ 2147483647 ∧ ∀ x ∈ xs, sf_oi x
def sf_LR (g : sf_G) (nL : Nat) (larr : Array Slot) (ls : sf_L) : Prop := larr.size = nL ∧ ls.length = nL ∧ ((∀ (i : Nat) (v : Value), larr[i]? = some (.val v) → v.category = 1) ∧ ∀ i : Nat, larr[i]? ≠ some .second) ∧ ∀ (i : Nat) (v : sf_V), ls[i]? = some (some v) → larr[i]? = some (.val (sf_cv g v)) ∧ sf_ok v
def sf_Cx (g : sf_G) (sc : Option (List Int)) (i : sf_I) (d : Nat) (p : Program) (R : Room) (s : State) (m : MethodId) (args : Array Value) (meth : Method) (c : Code) : Prop :=
  p.tables.exec = Jvm.exec ∧ c.code = i.2.1 ∧ c.maxLocals = i.2.2.1 ∧ s.vm.findClass i.1.cls = some m.cls ∧ (∀ w ∈ sf_tb, w.before args s = true) ∧ sf_KK g.2.2.1 (sf_tys g) s ∧ g.1 ≤ s.heap.size ∧ d + 1 ≤ R.frames ∧ 40 * (d + 1) ≤ R.locals ∧ (i.1.name = "<init>" → meth.name = "<init>") ∧ sf_Sc g sc s
def sf_At (g : sf_G) (nL : Nat) (p : Program) (l : Launch) (e : Env) (R : Room) (s : State) (m : MethodId) (args : Array Value) (below : List Frame) (meth : Method) (c : Code) (Q : State → Prop) (k0 k1 pc : Nat) (ls : sf_L) (st : List sf_V) (M : sf_M) : Prop :=
  ∀ (H : Heap) (locs : List Loc) (larr : Array Slot), sf_Rel g M H → va_S (fun q => g.1 ≤ q) s.heap H locs → sf_LR g nL larr ls → (∀ v ∈ st, sf_ok v) → W p l e R s m args below meth c H locs (M.length - k0) (sf_sl M - k1) Q (F0 m pc larr (st.map (sf_cv g)))
/-- the machine follows an action at a place of a method's code -/
def sf_AS (i : sf_I) (pc : Nat) (f : sf_A) : Prop := ∀ (g : sf_G) (sc : Option (List Int)) (ls : sf_L) (st : List sf_V) (M : sf_M) (pc' : Nat) (ls' : sf_L) (st' : List sf_V) (M' : sf_M), f sc ls st M = some (pc', ls', st', M') → (M.length ≤ M'.length ∧ sf_sl M ≤ sf_sl M') ∧
  ∀ (d : Nat) (p : Program) (l : Launch) (e : Env) (R : Room) (s : State) (m : MethodId) (args : Array Value) (below : List Frame) (meth : Method) (c : Code) (Q : State → Prop) (k0 k1 : Nat), sf_Cx g sc i d p R s m args meth c → k0 ≤ M.length → k1 ≤ sf_sl M → M'.length - k0 ≤ R.cells → sf_sl M' - k1 ≤ R.slots →
    sf_At g i.2.2.1 p l e R s m args below meth c Q k0 k1 pc' ls' st' M' → sf_At g i.2.2.1 p l e R s m args below meth c Q k0 k1 pc ls st M
theorem sf_wld_get (g : sf_G) (M : sf_M) (i : Nat) : (sf_wld g M)[i]? = (M[i]?).map (fun e => (g.1 + i, sf_enc g e)) := by
  simp [sf_wld, List.getElem?_mapIdx]
theorem sf_wld_at {g : sf_G} {M : sf_M} {i : Nat} {e : sf_C} (h : M[i]? = some e) : (sf_wld g M)[i]? = some (g.1 + i, sf_enc g e) := by
  rw [sf_wld_get, h]; rfl
theorem sf_wld_set (g : sf_G) (M : sf_M) (i : Nat) (e : sf_C) : sf_wld g (M.set i e) = (sf_wld g M).set i (g.1 + i, sf_enc g e) := by
  apply List.ext_getElem?
  intro j
  rw [sf_wld_get, List.getElem?_set, List.getElem?_set, sf_wld_get]
  have hl : (sf_wld g M).length = M.length := by simp [sf_wld]
  by_cases h : i = j
  · subst h
    by_cases h2 : i < M.length
    · simp [h2, hl]
    · simp [h2, hl]
  · simp [h]
theorem sf_wld_app (g : sf_G) (M : sf_M) (e : sf_C) : sf_wld g (M ++ [e]) = sf_wld g M ++ [(g.1 + M.length, sf_enc g e)] := by
  simp [sf_wld, List.mapIdx_append]
theorem sf_wld_D (g : sf_G) (M : sf_M) : va_D (fun q => g.1 ≤ q) (sf_wld g M) := by
  constructor
  · intro i j p q hi hj h
    rw [sf_wld_get] at hi hj
    cases h1 : M[i]? with
    | none => rw [h1] at hi; cases hi
    | some a =>
      cases h2 : M[j]? with
      | none => rw [h2] at hj; cases hj
      | some b =>
        rw [h1] at hi; rw [h2] at hj
        cases hi; cases hj
        have : g.1 + i = g.1 + j := h
        omega
  · intro k q hk
    rw [sf_wld_get] at hk
    cases h1 : M[k]? with
    | none => rw [h1] at hk; cases hk
    | some a =>
      rw [h1] at hk
      cases hk
      exact Nat.le_add_right _ _
theorem sf_sl_set {M : sf_M} {i : Nat} {e e' : sf_C} (h : M[i]? = some e) (hs : sf_sz e' = sf_sz e) : sf_sl (M.set i e') = sf_sl M := by
  induction M generalizing i with
  | nil => simp at h
  | cons a t ih =>
    cases i with
    | zero =>
      simp at h
      subst h
      simp [sf_sl, hs]
    | succ i =>
      have := ih (i := i) (by simpa using h)
      simp only [sf_sl, List.set_cons_succ, List.map_cons, List.sum_cons] at this ⊢
      omega
theorem sf_sl_app (M : sf_M) (e : sf_C) : sf_sl (M ++ [e]) = sf_sl M + sf_sz e := by
  simp [sf_sl]
theorem sf_okC_set {M : sf_M} {i : Nat} {e : sf_C} (h : ∀ c ∈ M, sf_okC c) (he : sf_okC e) : ∀ c ∈ M.set i e, sf_okC c := by
  intro c hc
  rcases List.mem_or_eq_of_mem_set hc with h1 | h1
  · exact h c h1
  · rw [h1]; exact he
theorem sf_okC_app {M : sf_M} {e : sf_C} (h : ∀ c ∈ M, sf_okC c) (he : sf_okC e) : ∀ c ∈ M ++ [e], sf_okC c := by
  intro c hc
  rcases List.mem_append.mp hc with h1 | h1
  · exact h c h1
  · rw [List.mem_singleton.mp h1]; exact he
theorem sf_cat {g : sf_G} {v : sf_V} (h : sf_c1 v = true) : (sf_cv g v).category = 1 := by
  match v, h with
  | .inl _, _ => rfl
  | .inr (.inl none), _ => rfl
  | .inr (.inl (some _)), _ => rfl
  | .inr (.inr (.inr _)), _ => rfl
theorem sf_ofSrf {g : sf_G} {nL : Nat} {larr : Array Slot} {ls : sf_L} (h : sf_LR g nL larr ls) {i : Nat} {v : sf_V} (hv : ls[i]? = some (some v)) : larr[i]? = some (.val (sf_cv g v)) := (h.2.2.2 i v hv).1
/-- storing where there is no long -/
theorem sf_store {g : sf_G} {nL : Nat} {larr : Array Slot} {ls : sf_L} (h : sf_LR g nL larr ls) {i : Nat} (hi : i < nL) {v : sf_V} (hv : sf_c1 v = true) (hk : sf_ok v) : storeLocals larr i (sf_cv g v) = some (larr.setIfInBounds i (.val (sf_cv g v))) ∧ sf_LR g nL (larr.setIfInBounds i (.val (sf_cv g v))) (ls.set i (some v)) := by
  obtain ⟨hs, hl, ⟨h1, h2⟩, h3⟩ := h
  have hi' : i < larr.size := by omega
  have hget : larr[i]? = some larr[i] := Array.getElem?_eq_getElem hi'
  have hc : ¬ (sf_cv g v).category = 2 := by rw [sf_cat hv]; omega
  refine ⟨?_, by simpa using hs, by simpa using hl, ⟨?_, ?_⟩, ?_⟩
  · cases hx : larr[i] with
    | unset =>
      rw [hx] at hget
      simp [storeLocals, storeSelf, setAt, hc, hi', hx]
    | second => rw [hx] at hget; exact absurd hget (h2 i)
    | val old =>
      rw [hx] at hget
      have ho : ¬ old.category = 2 := by rw [h1 i old hget]; omega
      simp [storeLocals, storeSelf, setAt, ho, hc, hi', hx]
  · intro j w hj
    by_cases hji : j = i
    · subst hji
      rw [Array.getElem?_setIfInBounds_self_of_lt hi'] at hj
      cases hj
      exact sf_cat hv
    · rw [Array.getElem?_setIfInBounds_ne (fun q => hji q.symm)] at hj
      exact h1 j w hj
  · intro j hj
    by_cases hji : j = i
    · subst hji
      rw [Array.getElem?_setIfInBounds_self_of_lt hi'] at hj
      cases hj
    · rw [Array.getElem?_setIfInBounds_ne (fun q => hji q.symm)] at hj
      exact h2 j hj
  · intro j w hj
    by_cases hji : i = j
    · subst hji
      rw [List.getElem?_set_self (by omega)] at hj
      cases hj
      exact ⟨Array.getElem?_setIfInBounds_self_of_lt hi', hk⟩
    · rw [List.getElem?_set_ne hji] at hj
      rw [Array.getElem?_setIfInBounds_ne hji]
      exact h3 j w hj
