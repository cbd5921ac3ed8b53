/-! 'in' of the reference (longs), ldc_w -/
theorem sf_r_ldc_w {i : sf_I} {pc index : Nat} {v : Int32} {n : Int} (hd : decode i.2.1 pc = .ok (.ldc_w index, 3)) (hw : Jvm.Cond.constant i.1.cls index v ∈ sf_tb) (hv : Int32.ofInt n = v) (hr : sf_oi n) : sf_AS i pc (sf_aS 0 (sf_fK n) (pc + 3)) :=
  sf_r_ldcw (index := index) (v := v) (fun hx hb hown hc k => lv_ldcw hx hb hown hc hd k) hw hv hr
abbrev sf_inI : sf_I := (yX12_in, cX12_in, 6, some .boolean)
def sf_inB (a b c : Int) : Int := if b ≤ a ∧ a ≤ c then 1 else 0
theorem sf_cmp_lt {a b : Int} (ha : sf_ol a) (hb : sf_ol b) : lg_cmp (Int64.ofInt a) (Int64.ofInt b) < 0 ↔ a < b := by
  unfold lg_cmp
  by_cases h1 : Int64.ofInt b < Int64.ofInt a
  · have := (sf_lt64 hb ha).mp h1
    rw [if_pos h1]
    exact ⟨fun z => absurd z (by decide), fun z => by omega⟩
  · have h1' : ¬ b < a := fun z => h1 ((sf_lt64 hb ha).mpr z)
    rw [if_neg h1]
    by_cases h2 : Int64.ofInt a = Int64.ofInt b
    · have := (sf_eq64 ha hb).mp h2
      rw [if_pos h2]
      exact ⟨fun z => absurd z (by decide), fun z => by omega⟩
    · have h2' : ¬ a = b := fun z => h2 ((sf_eq64 ha hb).mpr z)
      rw [if_neg h2]
      exact ⟨fun _ => by omega, fun _ => by decide⟩
theorem sf_cmp_gt {a b : Int} (ha : sf_ol a) (hb : sf_ol b) : lg_cmp (Int64.ofInt a) (Int64.ofInt b) > 0 ↔ b < a := by
  unfold lg_cmp
  by_cases h1 : Int64.ofInt b < Int64.ofInt a
  · have := (sf_lt64 hb ha).mp h1
    rw [if_pos h1]
    exact ⟨fun _ => this, fun _ => by decide⟩
  · have h1' : ¬ b < a := fun z => h1 ((sf_lt64 hb ha).mpr z)
    rw [if_neg h1]
    by_cases h2 : Int64.ofInt a = Int64.ofInt b
    · rw [if_pos h2]
      exact ⟨fun z => absurd z (by decide), fun z => absurd z h1'⟩
    · rw [if_neg h2]
      exact ⟨fun z => absurd z (by decide), fun z => absurd z h1'⟩
set_option maxRecDepth 100000 in
theorem sf_in_met (l : Launch) (g : sf_G) (a b c : Int) (ha : sf_ol a) (hb0 : sf_ol b) (hc0 : sf_ol c) (M : sf_M) : Met l yX12_in (sf_ws sf_inI) ({ frames := 0, cells := 0, slots := 0, locals := 0 }) (va_Pc [.long (Int64.ofInt a), .long (Int64.ofInt b), .long (Int64.ofInt c)] (sf_U g M)) (sf_Qc g (some (.inl (sf_inB a b c))) M) 0 0 (fun q => g.1 ≤ q) := by
  refine Met.ofW (cc := cX12_in) (maxL := 6) (ret := some .boolean) (by decide) rfl ?_
  intro p e s m args below meth c9 s₁ B hml hv
  obtain ⟨rfl, hR, hK, hbs⟩ := hv
  have hx := B.exec
  have hb := B.bytes
  have hr := B.returns
  have hlocks := B.notSynchronized
  have hl := lv_entry ([.long (Int64.ofInt a), .long (Int64.ofInt b), .long (Int64.ofInt c)]) (n := 6) (Nat.le_of_ble_eq_true rfl)
  rw [lg_entry_eq]
  generalize (lg_sl ([.long (Int64.ofInt a), .long (Int64.ofInt b), .long (Int64.ofInt c)]) ++ List.replicate (6 - (lg_sl ([.long (Int64.ofInt a), .long (Int64.ofInt b), .long (Int64.ofInt c)])).length) Slot.unset).toArray = ls at hl ⊢
  have hl : lv_has ls 6 [(0, .long (Int64.ofInt a)), (2, .long (Int64.ofInt b)), (4, .long (Int64.ofInt c))] := hl
  have hq : ∀ (aa : Array Value) (v : Int) (t : State), sf_inB a b c = v → sf_oi v → t.heap = s.heap → s.WarmedH t.vm → sf_Qc g (some (.inl (sf_inB a b c))) M aa s (.returned (some (.int (Int32.ofInt v)))) t := fun aa v t hv ho ht hW =>
    ⟨⟨by rw [hv]; rfl, fun w hw => by cases hw; rw [hv]; exact ho, by rw [ht]; exact hR, sf_KK.moved hW hK, by rw [ht]; exact hbs⟩, by rw [ht]; exact Nat.le_refl _, fun q _ _ => by rw [ht]⟩
  refine lv_lload_n hx hb dX12_in_0 rfl (lv_at hl 0 rfl) ?_
  refine lv_lload_n hx hb dX12_in_1 rfl (lv_at hl 1 rfl) ?_
  refine W.lcmp hx hb dX12_in_2 ?_
  refine lv_if_lt (tgt := 17) hx hb dX12_in_3 (by decide) (fun h => ?_) (fun h => ?_)
  · have h := (sf_cmp_lt ha hb0).mp h
    refine lv_iconst (v := Int32.ofInt 0) hx hb dX12_in_17 (by decide) ?_
    exact W.zret (v := Int32.ofInt 0) hx hb hr (by decide) (fun t ht hW => hq _ 0 t (by unfold sf_inB; rw [if_neg (by omega)]) sf_oi0 ht hW) (fun q h => by cases h) dX12_in_18
  · have h : ¬ a < b := fun z => h ((sf_cmp_lt ha hb0).mpr z)
    refine lv_lload_n hx hb dX12_in_6 rfl (lv_at hl 0 rfl) ?_
    refine lv_lload hx hb dX12_in_7 (lv_at hl 2 rfl) ?_
    refine W.lcmp hx hb dX12_in_9 ?_
    refine lv_if_gt (tgt := 17) hx hb dX12_in_10 (by decide) (fun h2 => ?_) (fun h2 => ?_)
    · have h2 := (sf_cmp_gt ha hc0).mp h2
      refine lv_iconst (v := Int32.ofInt 0) hx hb dX12_in_17 (by decide) ?_
      exact W.zret (v := Int32.ofInt 0) hx hb hr (by decide) (fun t ht hW => hq _ 0 t (by unfold sf_inB; rw [if_neg (by omega)]) sf_oi0 ht hW) (fun q h => by cases h) dX12_in_18
    · have h2 : ¬ c < a := fun z => h2 ((sf_cmp_gt ha hc0).mpr z)
      refine lv_iconst (v := Int32.ofInt 1) hx hb dX12_in_13 (by decide) ?_
      refine lv_goto (tgt := 18) hx hb dX12_in_14 (by decide) ?_
      exact W.zret (v := Int32.ofInt 1) hx hb hr (by decide) (fun t ht hW => hq _ 1 t (by unfold sf_inB; rw [if_pos (by omega)]) (by unfold sf_oi; omega) ht hW) (fun q h => by cases h) dX12_in_18
def sf_aIn (nx : Nat) : sf_A := fun _ ls st M => match st with
  | .inr (.inr (.inl c)) :: .inr (.inr (.inl b)) :: .inr (.inr (.inl a)) :: r => if r.length ≤ 4 then some (nx, ls, .inl (sf_inB a b c) :: r, M) else none
  | _ => none
theorem sf_r_in {i : sf_I} {pc index : Nat} (hd : decode i.2.1 pc = .ok (.invokestatic index, 3)) (hJ : sf_JW sf_inI 3) (hs : Cond.static yX12_in ∈ sf_tb) (hl : Cond.methodLink i.1.cls index yX12_in ∈ sf_tb) (hg : GoodIn sf_tb sf_tb) : sf_AS i pc (sf_aIn (pc + 3)) := by
  intro g sc ls st M pc' ls' st' M' hf
  unfold sf_aIn at hf
  split at hf
  · rename_i c9 b9 a9 r
    split at hf
    · rename_i hr4
      cases hf
      refine ⟨⟨Nat.le_refl _, Nat.le_refl _⟩, ?_⟩
      intro d p l e R s m args below meth c Q k0 k1 hC h0 h1' h2' h3' kk H locs larr hR hS hL hok
      obtain ⟨hx, hb, hml, hown, hts, ⟨hK, hKn⟩, hbs, hfr, hlo, -, -⟩ := hC
      obtain ⟨j1, j2, j3, j4⟩ := hJ
      have ho3 : sf_ol c9 := hok (.inr (.inr (.inl c9))) List.mem_cons_self
      have ho2 : sf_ol b9 := hok (.inr (.inr (.inl b9))) (List.mem_cons_of_mem _ List.mem_cons_self)
      have ho1 : sf_ol a9 := hok (.inr (.inr (.inl a9))) (List.mem_cons_of_mem _ (List.mem_cons_of_mem _ List.mem_cons_self))
      have hcat : 2 * (F0 m pc larr ((.inr (.inr (.inl c9)) :: .inr (.inr (.inl b9)) :: .inr (.inr (.inl a9)) :: r : List sf_V).map (sf_cv g))).monitorRoom + ((r.map (sf_cv g)).map fun v => v.category).sum ≤ 8 := by
        have := sf_cats g r
        exact lv_room (by omega)
      have cw := callB_of (R := R) (own := i.1.cls) (index := index) (mc := 0) (ms := 0) (rm := ({ frames := 0, cells := 0, slots := 0, locals := 0 } : Room)) 3 hts (sf_goodT sf_inI j1 hg) rfl rfl rfl (hts _ j2) (hts _ hl) j3 ⟨by show 0 + 1 ≤ R.frames; omega, by show 8 + (6 + 11) + 0 ≤ R.locals; omega⟩
      refine sf_W_call (g := g) (r := some (.inl (sf_inB a9 b9 c9))) (M1 := M) (va_runS (As := [.long (Int64.ofInt a9), .long (Int64.ofInt b9), .long (Int64.ofInt c9)]) (rest := r.map (sf_cv g)) ⟨hx, hb, hml, hown, hts⟩ (sf_in_met l g a9 b9 c9 ho1 ho2 ho3 M) ⟨cw, hts _ hs⟩ ⟨sf_blind _ g M, fun U hU hW => ⟨rfl, by rw [hU]; exact hR, sf_KK.moved hW ⟨hK, hKn⟩, by rw [hU, hR.1]; omega⟩⟩ rfl rfl (by show larr.size = _; exact hL.1) rfl hcat hd ⟨by omega, by omega⟩) hS (fun H1 locs1 q1 q2 q3 => ?_)
      exact kk H1 locs1 larr q1 q3 hL (fun v hv => (List.mem_cons.mp hv).elim (fun z => by rw [z]; exact q2 _ rfl) (fun z => hok v (List.mem_cons_of_mem _ (List.mem_cons_of_mem _ (List.mem_cons_of_mem _ z)))))
    · cases hf
  · cases hf
