/-! the law from its entry to its end -/
def R_law : String := "StoveFavoursLaw"
def lw_P (b : Addr) (xs : List Int32) (args : Array Value) (s : State) : Prop := args = #[.ref b] ∧ s.IntsAt b xs ∧ xs.length ≤ 2560 ∧ (Jvm.Cond.and given_1 narrow_1).before args s = true
def lw_Q (_ : Array Value) (s : State) (o : Outcome) (t : State) : Prop := o = .returned (some (.int 1)) ∧ Framed s o t [] 600000 7302250
def lw_Z (below : List Frame) (a : Array Value) (s : State) : State → Prop := fun t => ∃ o, t.status = .running ∧ Ended t below o ∧ lw_Q a s o t
/-- the law's own end, with 1 on the stack, nothing written that was there before, its room as the claim has it -/
theorem lw_ret {p : Program} {l : Launch} {e : Env} {s : State} {m : MethodId} {below : List Frame} {meth : Method} {c : Code} {b : Nat} (hx : p.tables.exec = Jvm.exec) (hb : c.code = code) (hr : meth.sig.returnType = ret) (hlocks : meth.locks = false) {pc : Nat} {H : Heap} {ls : Array Slot} (hdg : decode code pc = .ok (.ireturn, 1)) : W p l e room_1 s m #[Value.ref b] below meth c H [] 600000 7302250 (lw_Z below #[Value.ref b] s) (F0 m pc ls [.int 1]) := by
  intro T hT X
  obtain ⟨fs, hret, hrun, hended, hW, hframe⟩ := X.leave (v := some (.int 1)) (hlocks := hlocks) (fun h => by rw [hr] at h; cases h)
  have hmeth' : T.vm.method? m = some meth := X.method'
  refine ⟨T.setFrames fs, ?_, .returned (some (.int 1)), hrun, hended, rfl, ⟨_, rfl⟩, hW, hframe⟩
  jvm_step X.here [X.here.top, hx, hb, hdg, hmeth', hr, ret, narrow_b1]
  (try refine ⟨rfl, ?_⟩); (try refine ⟨rfl, ?_⟩)
  first | (intro acts; rw [hret _ acts rfl rfl rfl]) | rw [hret _ _ rfl rfl rfl]
  exact Steps.refl _
/-- what holds at the law's entry: the machine, the code, the tables' words (any of lw_tbl by 'hts w (by decide +kernel)'), the script of L ints xs at the cell b, what the Statement gives of the start (any of its parts by flat_of_before) -/
def lw_At (p : Program) (s : State) (m : MethodId) (meth : Method) (c : Code) (b L : Nat) (xs : Nat → Int32) : Prop :=
  p.tables.exec = Jvm.exec ∧ c.code = code ∧ meth.sig.returnType = ret ∧ c.maxLocals = 4 ∧ s.vm.findClass R_law = some m.cls ∧ (∀ w ∈ lw_tbl, w.before #[Value.ref b] s = true) ∧ va_X b L xs s s.heap ∧ b < s.heap.size ∧ meth.locks = false ∧ (Jvm.Cond.and given_1 narrow_1).before #[Value.ref b] s = true
theorem sf_one32 : Int32.ofInt 1 = 1 := by decide
theorem sf_law_end {p : Program} {l : Launch} {e : Env} {s : State} {m : MethodId} {below : List Frame} {meth : Method} {c : Code} {b : Nat} (hx : p.tables.exec = Jvm.exec) (hb : c.code = code) (hr : meth.sig.returnType = ret) (hlocks : meth.locks = false) {pc : Nat} {H : Heap} {ls : Array Slot} {locs : List Loc} {cells slots : Nat} (hdg : decode code pc = .ok (.ireturn, 1)) (hf : ∀ q ∈ locs, s.heap.size ≤ q.base) (h1 : cells ≤ 600000) (h2 : slots ≤ 7302250) : W p l e room_1 s m #[Value.ref b] below meth c H locs cells slots (lw_Z below #[Value.ref b] s) (F0 m pc ls [.int (Int32.ofInt 1)]) := by
  rw [sf_one32]
  refine va_forget hf ?_
  refine W.widen (k := 600000) (n := 7302250) h1 h2 ?_
  exact lw_ret hx hb hr hlocks hdg
theorem sf_law_rs {pcr kind : Nat} (ha : sf_act 165 pcr = some (.inr (.inr kind))) : sf_RS sf_i_L_law pcr kind := sf_followed 165 sf_i_L_law rfl pcr _ ha
theorem sf_law_fin {pcr kind : Nat} {str : List sf_V} (ha : sf_act 165 pcr = some (.inr (.inr kind))) (hrt : sf_rt kind str = some (some (.inl 1))) : str = [.inl 1] ∧ decode code pcr = .ok (.ireturn, 1) := by
  have hrs := sf_law_rs ha
  unfold sf_rt at hrt
  split at hrt
  · cases hrt
  · exact absurd hrs.2 (by intro h; cases h)
  · split at hrt
    · cases hrt
      exact ⟨rfl, hrs.1⟩
    · cases hrt
  · cases hrt
  · cases hrt
theorem sf_law_fin2 {p : Program} {l : Launch} {e : Env} {s : State} {m : MethodId} {below : List Frame} {meth : Method} {c : Code} {b : Nat} {g : sf_G} {nL pcr : Nat} {lsr : sf_L} {str : List sf_V} {M' : sf_M} (h : str = [.inl 1] ∧ decode code pcr = .ok (.ireturn, 1)) (hx : p.tables.exec = Jvm.exec) (hb : c.code = code) (hr : meth.sig.returnType = ret) (hlocks : meth.locks = false) (h1 : M'.length - 0 ≤ 600000) (h2 : sf_sl M' ≤ 7302250) (hg : g.1 = s.heap.size) : sf_At g nL p l e room_1 s m #[Value.ref b] below meth c (lw_Z below #[Value.ref b] s) 0 0 pcr lsr str M' := by
  intro H locs larr hR hS hL hok
  obtain ⟨rfl, hd⟩ := h
  exact sf_law_end hx hb hr hlocks hd (fun q hq => by rw [← hg]; exact hS.2.2 q hq) h1 (by omega)
theorem sf_law_at {p : Program} {l : Launch} {e : Env} {s : State} {m : MethodId} {below : List Frame} {meth : Method} {c : Code} {b : Nat} {g : sf_G} {xl : List Int} (hC : sf_Cx g (some xl) sf_i_L_law 20 p room_1 s m #[Value.ref b] meth c) (hr : meth.sig.returnType = ret) (hlocks : meth.locks = false) (hg : g.1 = s.heap.size) {n : Nat} {V : sf_MV} (hrun : sf_run n 20 (some xl) 165 0 [some svS, none, none, none] [] [] = some (some (.inl 1), sf_E V)) : sf_At g 4 p l e room_1 s m #[Value.ref b] below meth c (lw_Z below #[Value.ref b] s) 0 0 0 [some svS, none, none, none] [] [] := by
  have hS := (sf_sound sf_plain sf_followed n 20 (some xl) 165 0 _ _ _ _ _ hrun sf_i_L_law rfl).2
  have h1 : (sf_E V).length - 0 ≤ 600000 := by rw [sf_E_len]; exact Nat.le_of_ble_eq_true rfl
  have h2 := sf_slE V
  have h3 : (sf_E V).length - 0 ≤ room_1.cells := h1
  have h4 : sf_sl (sf_E V) - 0 ≤ room_1.slots := by rw [Nat.sub_zero]; exact h2
  exact hS g p l e room_1 s m #[Value.ref b] below meth c (lw_Z below #[Value.ref b] s) 0 0 hC (Nat.zero_le _) (Nat.zero_le _) h3 h4 (fun pcr lsr kind str ha hrt => sf_law_fin2 (sf_law_fin ha hrt) hC.1 hC.2.1 hr hlocks h1 h2 hg)
theorem sf_law_go {p : Program} {l : Launch} {e : Env} {s : State} {m : MethodId} {below : List Frame} {meth : Method} {c : Code} {b : Nat} {g : sf_G} {Q : State → Prop} {args : Array Value} (hg : g.1 = s.heap.size) (hb : g.2.1 = b) (h : sf_At g 4 p l e room_1 s m args below meth c Q 0 0 0 [some svS, none, none, none] [] []) : W p l e room_1 s m args below meth c s.heap [] 0 0 Q (entryFrame m ([Value.ref b] : List Value).toArray 4) := by
  rw [lg_entry_eq]
  have hl : sf_LR g 4 (lg_sl ([svS].map (sf_cv g)) ++ List.replicate (4 - (lg_sl ([svS].map (sf_cv g))).length) Slot.unset).toArray [some svS, none, none, none] := sf_entLR (g := g) (as := [svS]) (nL := 4) rfl (by decide) (fun v hv => by rw [List.mem_singleton.mp hv]; exact trivial)
  have hm : [svS].map (sf_cv g) = [Value.ref b] := by rw [← hb]; rfl
  rw [hm] at hl
  exact h s.heap [] _ ⟨by rw [hg]; rfl, fun k q h => by simp [sf_wld] at h, fun c hc => by cases hc⟩ ⟨Nat.le_refl _, fun _ _ _ => rfl, fun _ h => by cases h⟩ hl (fun v hv => by cases hv)
set_option maxRecDepth 100000 in
theorem whole_start {p : Program} {e : Env} {s : State} {m : MethodId} {below : List Frame} {meth : Method} {c : Code} (l : Launch) (hflags : l.flags = flags0) {b L : Nat} {xs : Nat → Int32} (hL : L ≤ 2560) (C0 : lw_At p s m meth c b L xs) : W p l e room_1 s m #[Value.ref b] below meth c s.heap [] 0 0 (lw_Z below #[Value.ref b] s) (entryFrame m ([Value.ref b] : List Value).toArray 4) := by
  obtain ⟨hx, hb, hr, hml, hown, hts, hX, hbl, hlocks, hgv⟩ := id C0
  obtain ⟨D, cA, hKK⟩ := sf_worldK hts
  obtain ⟨xl, hxl, hxo, hsc⟩ := sf_scr hL hX hbl D cA
  have hK := hKK s.heap.size b
  have hC : sf_Cx (s.heap.size, b, D, cA) (some xl) sf_i_L_law 20 p room_1 s m #[Value.ref b] meth c :=
    ⟨hx, hb, hml, hown, fun w hw => hts w (List.mem_filter.mp hw).1, hK, Nat.le_refl _, Nat.le_of_ble_eq_true rfl, Nat.le_of_ble_eq_true rfl, fun h => absurd h (by decide +kernel), hsc⟩
  obtain ⟨n, r, M', hrun, hr9, V, hM9⟩ := sf_start (sf_law_main xl hxl hxo)
  rw [hr9, hM9] at hrun
  exact sf_law_go rfl rfl (sf_law_at hC hr hlocks rfl hrun)
