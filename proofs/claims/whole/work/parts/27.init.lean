/-! the constructors: what they make, by running them -/
def sf_bV (v w : sf_V) : Bool := match v, w with
  | .inl a, .inl b => decide (a = b)
  | .inr (.inl a), .inr (.inl b) => decide (a = b)
  | .inr (.inr (.inl a)), .inr (.inr (.inl b)) => decide (a = b)
  | .inr (.inr (.inr _)), .inr (.inr (.inr _)) => true
  | _, _ => false
theorem sf_bV_eq {v w : sf_V} (h : sf_bV v w = true) : v = w := by
  unfold sf_bV at h
  split at h
  · rw [of_decide_eq_true h]
  · rw [of_decide_eq_true h]
  · rw [of_decide_eq_true h]
  · rfl
  · cases h
def sf_bL : List sf_V → List sf_V → Bool
  | [], [] => true
  | a :: s, b :: t => sf_bV a b && sf_bL s t
  | _, _ => false
theorem sf_bL_eq : ∀ {s t : List sf_V}, sf_bL s t = true → s = t
  | [], [], _ => rfl
  | a :: s, b :: t, h => by
    rw [sf_bL, Bool.and_eq_true] at h
    rw [sf_bV_eq h.1, sf_bL_eq h.2]
  | [], _ :: _, h => by cases h
  | _ :: _, [], h => by cases h
def sf_bC (v w : sf_C) : Bool := match v, w with
  | .inl a, .inl b => decide (a.1 = b.1) && sf_bL a.2 b.2
  | .inr (.inl a), .inr (.inl b) => decide (a = b)
  | .inr (.inr a), .inr (.inr b) => decide (a = b)
  | _, _ => false
theorem sf_bC_eq {v w : sf_C} (h : sf_bC v w = true) : v = w := by
  unfold sf_bC at h
  split at h
  · rename_i a b
    rw [Bool.and_eq_true] at h
    obtain ⟨a1, a2⟩ := a
    obtain ⟨b1, b2⟩ := b
    have e1 : a1 = b1 := of_decide_eq_true h.1
    have e2 : a2 = b2 := sf_bL_eq h.2
    rw [e1, e2]
  · rw [of_decide_eq_true h]
  · rw [of_decide_eq_true h]
  · cases h
def sf_bM : sf_M → sf_M → Bool
  | [], [] => true
  | a :: s, b :: t => sf_bC a b && sf_bM s t
  | _, _ => false
theorem sf_bM_eq : ∀ {s t : sf_M}, sf_bM s t = true → s = t
  | [], [], _ => rfl
  | a :: s, b :: t, h => by
    rw [sf_bM, Bool.and_eq_true] at h
    rw [sf_bC_eq h.1, sf_bM_eq h.2]
  | [], _ :: _, h => by cases h
  | _ :: _, [], h => by cases h
def sf_bR (z : Option (Option sf_V × sf_M)) (M : sf_M) : Bool := match z with
  | some (none, N) => sf_bM N M
  | _ => false
theorem sf_bR_eq {z : Option (Option sf_V × sf_M)} {M : sf_M} (h : sf_bR z M = true) : z = some (none, M) := by
  unfold sf_bR at h
  split at h
  · rw [sf_bM_eq h]
  · cases h
def sf_M1 : sf_M := sf_M0.take 409
theorem sf_init1 : sf_run 20000 19 none 59 0 [some (svR 0)] [] [.inl (11, sf_dfX11)] = some (none, sf_M1) := sf_bR_eq (by decide +kernel)
theorem sf_init2 : sf_run 20000 19 none 103 0 [some (svR 409), none] [] (sf_M1 ++ [.inl (12, sf_dfX12)]) = some (none, sf_M0) := sf_bR_eq (by decide +kernel)
theorem sf_M1len : sf_M1.length = 409 := by decide +kernel
set_option maxRecDepth 100000 in
theorem sf_start {sc : Option (List Int)} {Q : Option sf_V → sf_M → Prop} (h : sf_wp 20 sc 165 18 [some svS, some (svR 0), some (svR 409), some (svI 0)] [] sf_M0 Q) : sf_wp 20 sc 165 0 [some svS, none, none, none] [] [] Q := by
  rw [sf_q (pc' := 3) (ls' := [some svS, none, none, none]) (st' := [svR 0]) (M' := [.inl (11, sf_dfX11)]) rfl rfl]
  rw [sf_q (pc' := 4) (ls' := [some svS, none, none, none]) (st' := [svR 0, svR 0]) (M' := [.inl (11, sf_dfX11)]) rfl rfl]
  rw [sf_qC (d := 19) (y' := 59) (k := 1) (rc := 1) (pc' := 7) (ls0 := [some (svR 0)]) (rest := [svR 0]) rfl rfl ⟨⟨Nat.le_of_ble_eq_true rfl, Nat.le_of_ble_eq_true rfl, Nat.le_of_ble_eq_true rfl⟩, rfl⟩ rfl rfl]
  refine ⟨20000, none, sf_M1, sf_init1, ?_⟩
  show sf_wp 20 sc 165 7 [some svS, none, none, none] [svR 0] sf_M1 Q
  rw [sf_q (pc' := 8) (ls' := [some svS, some (svR 0), none, none]) (st' := []) (M' := sf_M1) rfl rfl]
  rw [sf_q (pc' := 11) (ls' := [some svS, some (svR 0), none, none]) (st' := [svR 409]) (M' := sf_M1 ++ [.inl (12, sf_dfX12)]) rfl (by unfold sf_aNew; rw [sf_M1len])]
  rw [sf_q (pc' := 12) (ls' := [some svS, some (svR 0), none, none]) (st' := [svR 409, svR 409]) (M' := sf_M1 ++ [.inl (12, sf_dfX12)]) rfl rfl]
  rw [sf_qC (d := 19) (y' := 103) (k := 1) (rc := 1) (pc' := 15) (ls0 := [some (svR 409), none]) (rest := [svR 409]) rfl rfl ⟨⟨Nat.le_of_ble_eq_true rfl, Nat.le_of_ble_eq_true rfl, Nat.le_of_ble_eq_true rfl⟩, rfl⟩ rfl rfl]
  refine ⟨20000, none, sf_M0, sf_init2, ?_⟩
  show sf_wp 20 sc 165 15 [some svS, some (svR 0), none, none] [svR 409] sf_M0 Q
  rw [sf_q (pc' := 16) (ls' := [some svS, some (svR 0), some (svR 409), none]) (st' := []) (M' := sf_M0) rfl rfl]
  rw [sf_q (pc' := 17) (ls' := [some svS, some (svR 0), some (svR 409), none]) (st' := [svI 0]) (M' := sf_M0) rfl rfl]
  rw [sf_q (pc' := 18) (ls' := [some svS, some (svR 0), some (svR 409), some (svI 0)]) (st' := []) (M' := sf_M0) rfl rfl]
  exact h
