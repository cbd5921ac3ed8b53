/-! what a run comes to: equations, an instruction each -/
abbrev svI (n : Int) : sf_V := .inl n
abbrev svR (a : Nat) : sf_V := .inr (.inl (some a))
abbrev svL (n : Int) : sf_V := .inr (.inr (.inl n))
abbrev svS : sf_V := .inr (.inr (.inr ()))
abbrev sf_MV : Type := Nat → Nat → Int
def sf_wp (d : Nat) (sc : Option (List Int)) (y pc : Nat) (ls : sf_L) (st : List sf_V) (M : sf_M) (Q : Option sf_V → sf_M → Prop) : Prop := ∃ (n : Nat) (r : Option sf_V) (M' : sf_M), sf_run n d sc y pc ls st M = some (r, M') ∧ Q r M'
section SFQ
variable {d y pc pc' t nx : Nat} {sc : Option (List Int)} {ls ls' : sf_L} {st st' : List sf_V} {M M' : sf_M} {Q : Option sf_V → sf_M → Prop} {f : sf_A} {V : sf_MV}
theorem sf_q (ha : sf_act y pc = some (.inl f)) (hf : f sc ls st M = some (pc', ls', st', M')) : sf_wp d sc y pc ls st M Q = sf_wp d sc y pc' ls' st' M' Q := by
  apply propext
  constructor
  · rintro ⟨n, r, M1, h, hq⟩
    match n, h with
    | n + 1, h =>
      rw [sf_run, sf_ex, ha] at h
      dsimp only at h
      rw [hf] at h
      exact ⟨n, r, M1, h, hq⟩
  · rintro ⟨n, r, M1, h, hq⟩
    refine ⟨n + 1, r, M1, ?_, hq⟩
    rw [sf_run, sf_ex, ha]
    dsimp only
    rw [hf]
    exact h
theorem sf_qF (ha : sf_act y pc = some (.inl f)) (hf : f sc ls st M = none) : sf_wp d sc y pc ls st M Q = False := by
  apply propext
  constructor
  · rintro ⟨n, r, M1, h, hq⟩
    match n, h with
    | n + 1, h =>
      rw [sf_run, sf_ex, ha] at h
      dsimp only at h
      rw [hf] at h
      cases h
  · intro h; exact h.elim
theorem sf_qB1 {P : Int → Bool} {x : Int} (ha : sf_act y pc = some (.inl (sf_aB1 P t nx))) : sf_wp d sc y pc ls (.inl x :: st) M Q = if P x = true then sf_wp d sc y t ls st M Q else sf_wp d sc y nx ls st M Q := by
  by_cases h : P x = true
  · rw [if_pos h]; exact sf_q ha (by simp [sf_aB1, h])
  · rw [if_neg h]; exact sf_q ha (by simp [sf_aB1, h])
theorem sf_qB2 {P : Int → Int → Bool} {x z : Int} (ha : sf_act y pc = some (.inl (sf_aB2 P t nx))) : sf_wp d sc y pc ls (.inl z :: .inl x :: st) M Q = if P x z = true then sf_wp d sc y t ls st M Q else sf_wp d sc y nx ls st M Q := by
  by_cases h : P x z = true
  · rw [if_pos h]; exact sf_q ha (by simp [sf_aB2, h])
  · rw [if_neg h]; exact sf_q ha (by simp [sf_aB2, h])
theorem sf_qif_eq {x : Int} (ha : sf_act y pc = some (.inl (sf_aB1 sf_eq0 t nx))) : sf_wp d sc y pc ls (.inl x :: st) M Q = if x = 0 then sf_wp d sc y t ls st M Q else sf_wp d sc y nx ls st M Q := by rw [sf_qB1 ha]; simp only [sf_eq0, decide_eq_true_eq]
theorem sf_qif_ne {x : Int} (ha : sf_act y pc = some (.inl (sf_aB1 sf_ne0b t nx))) : sf_wp d sc y pc ls (.inl x :: st) M Q = if x = 0 then sf_wp d sc y nx ls st M Q else sf_wp d sc y t ls st M Q := by
  rw [sf_qB1 ha]
  by_cases h : x = 0 <;> simp [sf_ne0b, h]
theorem sf_qif_lt {x : Int} (ha : sf_act y pc = some (.inl (sf_aB1 sf_lt0 t nx))) : sf_wp d sc y pc ls (.inl x :: st) M Q = if x < 0 then sf_wp d sc y t ls st M Q else sf_wp d sc y nx ls st M Q := by rw [sf_qB1 ha]; simp only [sf_lt0, decide_eq_true_eq]
theorem sf_qif_ge {x : Int} (ha : sf_act y pc = some (.inl (sf_aB1 sf_ge0 t nx))) : sf_wp d sc y pc ls (.inl x :: st) M Q = if 0 ≤ x then sf_wp d sc y t ls st M Q else sf_wp d sc y nx ls st M Q := by rw [sf_qB1 ha]; simp only [sf_ge0, decide_eq_true_eq]
theorem sf_qif_gt {x : Int} (ha : sf_act y pc = some (.inl (sf_aB1 sf_gt0 t nx))) : sf_wp d sc y pc ls (.inl x :: st) M Q = if 0 < x then sf_wp d sc y t ls st M Q else sf_wp d sc y nx ls st M Q := by rw [sf_qB1 ha]; simp only [sf_gt0, decide_eq_true_eq]
theorem sf_qif_le {x : Int} (ha : sf_act y pc = some (.inl (sf_aB1 sf_le0 t nx))) : sf_wp d sc y pc ls (.inl x :: st) M Q = if x ≤ 0 then sf_wp d sc y t ls st M Q else sf_wp d sc y nx ls st M Q := by rw [sf_qB1 ha]; simp only [sf_le0, decide_eq_true_eq]
theorem sf_qic_eq {x z : Int} (ha : sf_act y pc = some (.inl (sf_aB2 sf_beq t nx))) : sf_wp d sc y pc ls (.inl z :: .inl x :: st) M Q = if x = z then sf_wp d sc y t ls st M Q else sf_wp d sc y nx ls st M Q := by rw [sf_qB2 ha]; simp only [sf_beq, decide_eq_true_eq]
theorem sf_qic_ne {x z : Int} (ha : sf_act y pc = some (.inl (sf_aB2 sf_bne t nx))) : sf_wp d sc y pc ls (.inl z :: .inl x :: st) M Q = if x = z then sf_wp d sc y nx ls st M Q else sf_wp d sc y t ls st M Q := by
  rw [sf_qB2 ha]
  by_cases h : x = z <;> simp [sf_bne, h]
theorem sf_qic_lt {x z : Int} (ha : sf_act y pc = some (.inl (sf_aB2 sf_blt t nx))) : sf_wp d sc y pc ls (.inl z :: .inl x :: st) M Q = if x < z then sf_wp d sc y t ls st M Q else sf_wp d sc y nx ls st M Q := by rw [sf_qB2 ha]; simp only [sf_blt, decide_eq_true_eq]
theorem sf_qic_ge {x z : Int} (ha : sf_act y pc = some (.inl (sf_aB2 sf_bge t nx))) : sf_wp d sc y pc ls (.inl z :: .inl x :: st) M Q = if z ≤ x then sf_wp d sc y t ls st M Q else sf_wp d sc y nx ls st M Q := by rw [sf_qB2 ha]; simp only [sf_bge, decide_eq_true_eq]
theorem sf_qic_gt {x z : Int} (ha : sf_act y pc = some (.inl (sf_aB2 sf_bgt t nx))) : sf_wp d sc y pc ls (.inl z :: .inl x :: st) M Q = if z < x then sf_wp d sc y t ls st M Q else sf_wp d sc y nx ls st M Q := by rw [sf_qB2 ha]; simp only [sf_bgt, decide_eq_true_eq]
theorem sf_qic_le {x z : Int} (ha : sf_act y pc = some (.inl (sf_aB2 sf_ble t nx))) : sf_wp d sc y pc ls (.inl z :: .inl x :: st) M Q = if x ≤ z then sf_wp d sc y t ls st M Q else sf_wp d sc y nx ls st M Q := by rw [sf_qB2 ha]; simp only [sf_ble, decide_eq_true_eq]
theorem sf_qdiv {x z : Int} (ha : sf_act y pc = some (.inl (sf_aS 2 (sf_f2 sf_fdiv) nx))) : sf_wp d sc y pc ls (.inl z :: .inl x :: st) M Q = (¬ z = 0 ∧ sf_wp d sc y nx ls (.inl (sf_w (x.tdiv z)) :: st) M Q) := by
  by_cases h : z = 0
  · rw [sf_qF ha (by simp [sf_aS, sf_f2, sf_fdiv, h])]; simp [h]
  · rw [sf_q ha (pc' := nx) (ls' := ls) (st' := .inl (sf_w (x.tdiv z)) :: st) (M' := M) (by simp [sf_aS, sf_f2, sf_fdiv, h])]; simp [h]
theorem sf_qrem {x z : Int} (ha : sf_act y pc = some (.inl (sf_aS 2 (sf_f2 sf_frem) nx))) : sf_wp d sc y pc ls (.inl z :: .inl x :: st) M Q = (¬ z = 0 ∧ sf_wp d sc y nx ls (.inl (x.tmod z) :: st) M Q) := by
  by_cases h : z = 0
  · rw [sf_qF ha (by simp [sf_aS, sf_f2, sf_frem, h])]; simp [h]
  · rw [sf_q ha (pc' := nx) (ls' := ls) (st' := .inl (x.tmod z) :: st) (M' := M) (by simp [sf_aS, sf_f2, sf_frem, h])]; simp [h]
theorem sf_qlrem {x z : Int} (ha : sf_act y pc = some (.inl (sf_aS 2 (sf_fl2 sf_flrem) nx))) (h : ¬ z = 0) : sf_wp d sc y pc ls (.inr (.inr (.inl z)) :: .inr (.inr (.inl x)) :: st) M Q = sf_wp d sc y nx ls (.inr (.inr (.inl (x.tmod z))) :: st) M Q :=
  sf_q ha (by simp [sf_aS, sf_fl2, sf_flrem, h])
theorem sf_qget_r {a ci k : Nat} (h : sf_cls a = ci) (ha : sf_act y pc = some (.inl (sf_aGet ci k nx))) (hk : ci < 100 ∧ (sf_kd ci)[k]? = some true) : sf_wp d sc y pc ls (.inr (.inl (some a)) :: st) (sf_E V) Q = sf_wp d sc y nx ls (.inr (.inl (some (sf_rf a k))) :: st) (sf_E V) Q := by
  obtain ⟨b, fs, h1, h2, h3⟩ := sf_kd_ref h hk.1 hk.2
  refine sf_q ha ?_
  have e : (sf_E V)[a]? = some (sf_fill (V a) (.inl (ci, fs))) := by rw [sf_E_get, h1]; rfl
  simp [sf_aGet, e, sf_fill, sf_fv, h2, h3]
theorem sf_qget_i {a ci k : Nat} (h : sf_cls a = ci) (ha : sf_act y pc = some (.inl (sf_aGet ci k nx))) (hk : ci < 100 ∧ (sf_kd ci)[k]? = some false) : sf_wp d sc y pc ls (.inr (.inl (some a)) :: st) (sf_E V) Q = sf_wp d sc y nx ls (.inl (V a k) :: st) (sf_E V) Q := by
  obtain ⟨n, fs, h1, h2⟩ := sf_kd_int h hk.1 hk.2
  refine sf_q ha ?_
  have e : (sf_E V)[a]? = some (sf_fill (V a) (.inl (ci, fs))) := by rw [sf_E_get, h1]; rfl
  simp [sf_aGet, e, sf_fill, sf_fv, h2]
theorem sf_fillO {V : sf_MV} {a k ci : Nat} {v n : Int} {fs : List sf_V} (h2 : fs[k]? = some (.inl n)) : (.inl (ci, (fs.mapIdx (sf_fv (V a))).set k (.inl v)) : sf_C) = sf_fill (sf_upd V a k v a) (.inl (ci, fs)) := by
  unfold sf_fill
  dsimp only
  congr 2
  apply List.ext_getElem?
  intro j
  rw [List.getElem?_set, List.getElem?_mapIdx, List.getElem?_mapIdx]
  by_cases hkj : k = j
  · subst hkj
    have hlt : k < fs.length := (List.getElem?_eq_some_iff.mp h2).1
    rw [if_pos rfl, h2]
    simp [hlt, sf_upd, sf_fv]
  · rw [if_neg hkj]
    have hu : sf_upd V a k v a j = V a j := by unfold sf_upd; rw [if_neg (fun e => hkj e.2.symm)]
    have hv : ∀ w, sf_fv (V a) j w = sf_fv (sf_upd V a k v a) j w := fun w => by
      cases w with
      | inl n => show Sum.inl (V a j) = Sum.inl (sf_upd V a k v a j); rw [hu]
      | inr w => rfl
    congr 1
    funext w
    exact hv w
theorem sf_qput_i {a ci k : Nat} {v : Int} (h : sf_cls a = ci) (ha : sf_act y pc = some (.inl (sf_aPut ci k 0 nx))) (hk : ci < 100 ∧ (sf_kd ci)[k]? = some false) : sf_wp d sc y pc ls (.inl v :: .inr (.inl (some a)) :: st) (sf_E V) Q = sf_wp d sc y nx ls st (sf_E (sf_upd V a k v)) Q := by
  obtain ⟨n, fs, h1, h2⟩ := sf_kd_int h hk.1 hk.2
  have e : (sf_E V)[a]? = some (sf_fill (V a) (.inl (ci, fs))) := by rw [sf_E_get, h1]; rfl
  have hlt : k < fs.length := (List.getElem?_eq_some_iff.mp h2).1
  rw [sf_E_upd h1 (c' := .inl (ci, (fs.mapIdx (sf_fv (V a))).set k (.inl v))) (sf_fillO h2)]
  refine sf_q ha ?_
  simp [sf_aPut, e, sf_fill, sf_fz, hlt]
theorem sf_qput_z {a ci k : Nat} {v : Int} (h : sf_cls a = ci) (ha : sf_act y pc = some (.inl (sf_aPut ci k 1 nx))) (hk : ci < 100 ∧ (sf_kd ci)[k]? = some false) : sf_wp d sc y pc ls (.inl v :: .inr (.inl (some a)) :: st) (sf_E V) Q = ((v = 0 ∨ v = 1) ∧ sf_wp d sc y nx ls st (sf_E (sf_upd V a k v)) Q) := by
  obtain ⟨n, fs, h1, h2⟩ := sf_kd_int h hk.1 hk.2
  have e : (sf_E V)[a]? = some (sf_fill (V a) (.inl (ci, fs))) := by rw [sf_E_get, h1]; rfl
  have hlt : k < fs.length := (List.getElem?_eq_some_iff.mp h2).1
  by_cases hv : v = 0 ∨ v = 1
  · rw [sf_E_upd h1 (c' := .inl (ci, (fs.mapIdx (sf_fv (V a))).set k (.inl v))) (sf_fillO h2)]
    rw [sf_q ha (pc' := nx) (ls' := ls) (st' := st) (M' := (sf_E V).set a (.inl (ci, (fs.mapIdx (sf_fv (V a))).set k (.inl v)))) (by simp [sf_aPut, e, sf_fill, sf_fz, hlt, hv])]
    simp [hv]
  · rw [sf_qF ha (by simp [sf_aPut, e, sf_fill, sf_fz, hlt, hv])]
    simp [hv]
theorem sf_Earr {a t : Nat} {xs : List Int} (h1 : sf_M0[a]? = some (.inr (.inl (t, xs)))) : (sf_E V)[a]? = some (.inr (.inl (t, xs.mapIdx (fun k _ => V a k)))) := by rw [sf_E_get, h1]; rfl
theorem sf_fillA {V : sf_MV} {a k t : Nat} {v : Int} {xs : List Int} (hk : k < xs.length) : (.inr (.inl (t, (xs.mapIdx (fun k _ => V a k)).set k v)) : sf_C) = sf_fill (sf_upd V a k v a) (.inr (.inl (t, xs))) := by
  unfold sf_fill
  dsimp only
  congr 3
  apply List.ext_getElem?
  intro j
  rw [List.getElem?_set, List.getElem?_mapIdx, List.getElem?_mapIdx]
  by_cases hkj : k = j
  · subst hkj
    simp [hk, sf_upd]
  · rw [if_neg hkj]
    have hu : sf_upd V a k v a j = V a j := by unfold sf_upd; rw [if_neg (fun e => hkj e.2.symm)]
    rw [hu]
theorem sf_getM {xs : List Int} {f : Nat → Int} {n : Nat} (h : n < xs.length) : (xs.mapIdx (fun k _ => f k)).getD n 0 = f n := by
  simp [List.getD, List.getElem?_mapIdx, List.getElem?_eq_getElem h]
theorem sf_qiald {a : Nat} {x : Int} (h : sf_cls a = 100) (ha : sf_act y pc = some (.inl (sf_aIal nx))) : sf_wp d sc y pc ls (.inl x :: .inr (.inl (some a)) :: st) (sf_E V) Q = ((0 ≤ x ∧ x < sf_len a) ∧ sf_wp d sc y nx ls (.inl (V a x.toNat) :: st) (sf_E V) Q) := by
  obtain ⟨xs, h1, h2, h3⟩ := sf_cls_arr (t := 0) h (by omega)
  by_cases hx : 0 ≤ x ∧ x < sf_len a
  · have hx2 : 0 ≤ x ∧ x < xs.length := by rw [h2] at hx; exact hx
    rw [sf_q ha (pc' := nx) (ls' := ls) (st' := .inl (V a x.toNat) :: st) (M' := sf_E V) (by simp [sf_aIal, sf_Earr h1, hx2])]
    simp [hx]
  · have hx2 : ¬ (0 ≤ x ∧ x < xs.length) := by rw [h2] at hx; exact hx
    rw [sf_qF ha (by simp [sf_aIal, sf_Earr h1]; omega)]
    simp only [hx, false_and]
theorem sf_qiast {a : Nat} {x v : Int} (h : sf_cls a = 100) (ha : sf_act y pc = some (.inl (sf_aIas nx))) : sf_wp d sc y pc ls (.inl v :: .inl x :: .inr (.inl (some a)) :: st) (sf_E V) Q = ((0 ≤ x ∧ x < sf_len a) ∧ sf_wp d sc y nx ls st (sf_E (sf_upd V a x.toNat v)) Q) := by
  obtain ⟨xs, h1, h2, h3⟩ := sf_cls_arr (t := 0) h (by omega)
  by_cases hx : 0 ≤ x ∧ x < sf_len a
  · have hx2 : 0 ≤ x ∧ x < xs.length := by rw [h2] at hx; exact hx
    rw [sf_E_upd h1 (sf_fillA (show x.toNat < xs.length by omega))]
    rw [sf_q ha (pc' := nx) (ls' := ls) (st' := st) (M' := (sf_E V).set a (.inr (.inl (0, (xs.mapIdx (fun k _ => V a k)).set x.toNat v)))) (by simp [sf_aIas, sf_Earr h1, hx2])]
    simp [hx]
  · have hx2 : ¬ (0 ≤ x ∧ x < xs.length) := by rw [h2] at hx; exact hx
    rw [sf_qF ha (by simp [sf_aIas, sf_Earr h1]; omega)]
    simp only [hx, false_and]
theorem sf_qbald {a : Nat} {x : Int} (h : sf_cls a = 101) (ha : sf_act y pc = some (.inl (sf_aBal nx))) : sf_wp d sc y pc ls (.inl x :: .inr (.inl (some a)) :: st) (sf_E V) Q = ((0 ≤ x ∧ x < sf_len a) ∧ sf_wp d sc y nx ls (.inl (V a x.toNat) :: st) (sf_E V) Q) := by
  obtain ⟨xs, h1, h2, h3⟩ := sf_cls_arr (t := 1) h (by omega)
  by_cases hx : 0 ≤ x ∧ x < sf_len a
  · have hx2 : 0 ≤ x ∧ x < xs.length := by rw [h2] at hx; exact hx
    rw [sf_q ha (pc' := nx) (ls' := ls) (st' := .inl (V a x.toNat) :: st) (M' := sf_E V) (by simp [sf_aBal, sf_Earr h1, hx2])]
    simp [hx]
  · have hx2 : ¬ (0 ≤ x ∧ x < xs.length) := by rw [h2] at hx; exact hx
    rw [sf_qF ha (by simp [sf_aBal, sf_Earr h1]; omega)]
    simp only [hx, false_and]
theorem sf_qbast {a : Nat} {x v : Int} (h : sf_cls a = 101) (ha : sf_act y pc = some (.inl (sf_aBas nx))) : sf_wp d sc y pc ls (.inl v :: .inl x :: .inr (.inl (some a)) :: st) (sf_E V) Q = (((0 ≤ x ∧ x < sf_len a) ∧ (v = 0 ∨ v = 1)) ∧ sf_wp d sc y nx ls st (sf_E (sf_upd V a x.toNat v)) Q) := by
  obtain ⟨xs, h1, h2, h3⟩ := sf_cls_arr (t := 1) h (by omega)
  by_cases hx : (0 ≤ x ∧ x < sf_len a) ∧ (v = 0 ∨ v = 1)
  · have hx2 : (0 ≤ x ∧ x < xs.length) ∧ (v = 0 ∨ v = 1) := by rw [h2] at hx; exact hx
    have hlt : x.toNat < xs.length := by omega
    rw [sf_E_upd h1 (sf_fillA hlt)]
    rw [sf_q ha (pc' := nx) (ls' := ls) (st' := st) (M' := (sf_E V).set a (.inr (.inl (1, (xs.mapIdx (fun k _ => V a k)).set x.toNat v)))) (by simp [sf_aBas, sf_Earr h1, hx2])]
    simp only [hx, true_and, and_self]
  · have hx2 : ¬ ((0 ≤ x ∧ x < xs.length) ∧ (v = 0 ∨ v = 1)) := by rw [h2] at hx; exact hx
    rw [sf_qF ha (by
      unfold sf_aBas
      dsimp only
      rw [sf_Earr h1]
      simp only [List.length_mapIdx, hx2, if_false])]
    simp only [hx, false_and]
theorem sf_qalen {a : Nat} (h : sf_cls a = 100) (ha : sf_act y pc = some (.inl (sf_aLen nx))) : sf_wp d sc y pc ls (.inr (.inl (some a)) :: st) (sf_E V) Q = sf_wp d sc y nx ls (.inl (sf_len a) :: st) (sf_E V) Q := by
  obtain ⟨xs, h1, h2, h3⟩ := sf_cls_arr (t := 0) h (by omega)
  refine sf_q ha ?_
  simp [sf_aLen, sf_Earr h1, h2]
  omega
theorem sf_Erefs {a : Nat} {rs : List (Option Nat)} (h1 : sf_M0[a]? = some (.inr (.inr rs))) : (sf_E V)[a]? = some (.inr (.inr rs)) := by rw [sf_E_get, h1]; rfl
theorem sf_qqlen {a : Nat} (h : sf_cls a = 200) (ha : sf_act y pc = some (.inl (sf_aLen nx))) : sf_wp d sc y pc ls (.inr (.inl (some a)) :: st) (sf_E V) Q = sf_wp d sc y nx ls (.inl (sf_len a) :: st) (sf_E V) Q := by
  obtain ⟨rs, h1, h2, h3, h4⟩ := sf_cls_refs h
  refine sf_q ha ?_
  simp [sf_aLen, sf_Erefs h1, h2]
  omega
theorem sf_qaald {a : Nat} {x : Int} (h : sf_cls a = 200) (ha : sf_act y pc = some (.inl (sf_aAal nx))) : sf_wp d sc y pc ls (.inl x :: .inr (.inl (some a)) :: st) (sf_E V) Q = ((0 ≤ x ∧ x < sf_len a) ∧ sf_wp d sc y nx ls (.inr (.inl (some (sf_rf a x.toNat))) :: st) (sf_E V) Q) := by
  obtain ⟨rs, h1, h2, h3, h4⟩ := sf_cls_refs h
  by_cases hx : 0 ≤ x ∧ x < sf_len a
  · have hx2 : 0 ≤ x ∧ x < rs.length := by rw [h2] at hx; exact hx
    obtain ⟨-, rs', h5, h6⟩ := sf_elem h (show x.toNat < sf_len a by omega)
    have : rs = rs' := by rw [h1] at h5; simpa using h5
    subst this
    rw [sf_q ha (pc' := nx) (ls' := ls) (st' := .inr (.inl (some (sf_rf a x.toNat))) :: st) (M' := sf_E V) (by simp [sf_aAal, sf_Erefs h1, hx2]; exact (List.getElem?_eq_some_iff.mp h6).2)]
    simp [hx]
  · have hx2 : ¬ (0 ≤ x ∧ x < rs.length) := by rw [h2] at hx; exact hx
    rw [sf_qF ha (by simp [sf_aAal, sf_Erefs h1]; omega)]
    simp only [hx, false_and]
theorem sf_qS_ld {xs : List Int} {x : Int} (ha : sf_act y pc = some (.inl (sf_aIal nx))) : sf_wp d (some xs) y pc ls (.inl x :: svS :: st) M Q = ((0 ≤ x ∧ x < xs.length) ∧ sf_wp d (some xs) y nx ls (.inl (xs.getD x.toNat 0) :: st) M Q) := by
  by_cases hx : 0 ≤ x ∧ x < xs.length
  · rw [sf_q ha (pc' := nx) (ls' := ls) (st' := .inl (xs.getD x.toNat 0) :: st) (M' := M) (by simp [sf_aIal, hx])]
    simp [hx]
  · rw [sf_qF ha (by simp [sf_aIal]; omega)]
    simp only [hx, false_and]
theorem sf_qS_len {xs : List Int} (ha : sf_act y pc = some (.inl (sf_aLen nx))) : sf_wp d (some xs) y pc ls (svS :: st) M Q = sf_wp d (some xs) y nx ls (.inl xs.length :: st) M Q := sf_q ha rfl
theorem sf_qR {kind : Nat} {r : Option sf_V} (ha : sf_act y pc = some (.inr (.inr kind))) (hr : sf_rt kind st = some r) : sf_wp d sc y pc ls st M Q = Q r M := by
  apply propext
  constructor
  · rintro ⟨n, r1, M1, h, hq⟩
    match n, h with
    | n + 1, h =>
      rw [sf_run, sf_ex, ha] at h
      dsimp only at h
      rw [hr] at h
      cases h
      exact hq
  · intro hq
    refine ⟨1, r, M, ?_, hq⟩
    rw [sf_run, sf_ex, ha]
    dsimp only
    rw [hr]
theorem sf_qRz {x : Int} (ha : sf_act y pc = some (.inr (.inr 2))) : sf_wp d sc y pc ls [.inl x] M Q = ((x = 0 ∨ x = 1) ∧ Q (some (.inl x)) M) := by
  by_cases hx : x = 0 ∨ x = 1
  · rw [sf_qR ha (r := some (.inl x)) (by simp [sf_rt, hx])]
    simp [hx]
  · apply propext
    constructor
    · rintro ⟨n, r1, M1, h, hq⟩
      match n, h with
      | n + 1, h =>
        rw [sf_run, sf_ex, ha] at h
        dsimp only at h
        have : sf_rt 2 [.inl x] = none := by simp [sf_rt, hx]
        rw [this] at h
        cases h
    · rintro ⟨h, -⟩
      exact absurd h hx
theorem sf_qC {y' k rc : Nat} {ls0 : sf_L} {rest : List sf_V} (hck : sf_rck rc (st.take k).reverse M = true) (ha : sf_act y pc = some (.inr (.inl (y', k, pc', rc)))) (hb : (k ≤ st.length ∧ st.length - k ≤ 4 ∧ k ≤ sf_nl y') ∧ (st.take k).all sf_c1 = true) (hl : sf_ent (sf_nl y') (st.take k).reverse = ls0) (hr : st.drop k = rest) :
    sf_wp (d + 1) sc y pc ls st M Q = sf_wp d none y' 0 ls0 [] M (fun r M1 => sf_wp (d + 1) sc y pc' ls (r.toList ++ rest) M1 Q) := by
  subst hl
  subst hr
  apply propext
  constructor
  · rintro ⟨n, r, M1, h, hq⟩
    match n, h with
    | n + 1, h =>
      rw [sf_run, sf_ex, ha] at h
      dsimp only at h
      rw [if_pos ⟨hb.1, hck, hb.2⟩] at h
      split at h
      · rename_i z hz
        exact ⟨n, z.1, z.2, hz, n, r, M1, h, hq⟩
      · cases h
  · rintro ⟨n1, r1, M1, h1, n2, r, M2, h2, hq⟩
    refine ⟨n1 + n2 + 1, r, M2, ?_, hq⟩
    rw [sf_run, sf_ex, ha]
    dsimp only
    rw [if_pos ⟨hb.1, hck, hb.2⟩]
    rw [sf_ex_mono _ _ _ _ _ _ _ _ _ h1 (n1 + n2) (by omega)]
    exact sf_ex_mono _ _ _ _ _ _ _ _ _ h2 (n1 + n2) (by omega)
theorem sf_rckV {a n : Nat} {as : List sf_V} (h : sf_cls a = n) (hn : n < 100) : sf_rck (n + 2) (.inr (.inl (some a)) :: as) (sf_E V) = true := by
  obtain ⟨fs, h1, -, -⟩ := sf_cls_obj h hn
  have e : (sf_E V)[a]? = some (sf_fill (V a) (.inl (n, fs))) := by rw [sf_E_get, h1]; rfl
  unfold sf_rck
  dsimp only
  rw [e]
  exact Nat.beq_refl n
theorem sf_qV {y' k n : Nat} {ls0 : sf_L} {rest : List sf_V} {a : Nat} {as : List sf_V} (h : sf_cls a = n) (ha : sf_act y pc = some (.inr (.inl (y', k, pc', n + 2)))) (hn : n < 100) (hb : (k ≤ st.length ∧ st.length - k ≤ 4 ∧ k ≤ sf_nl y') ∧ (st.take k).all sf_c1 = true) (has : (st.take k).reverse = .inr (.inl (some a)) :: as) (hl : sf_ent (sf_nl y') (st.take k).reverse = ls0) (hr : st.drop k = rest) :
    sf_wp (d + 1) sc y pc ls st (sf_E V) Q = sf_wp d none y' 0 ls0 [] (sf_E V) (fun r M1 => sf_wp (d + 1) sc y pc' ls (r.toList ++ rest) M1 Q) :=
  sf_qC (by rw [has]; exact sf_rckV h hn) ha hb hl hr
theorem sf_wp_mono {Q' : Option sf_V → sf_M → Prop} (h : sf_wp d sc y pc ls st M Q) (hq : ∀ r M', Q r M' → Q' r M') : sf_wp d sc y pc ls st M Q' := by
  obtain ⟨n, r, M', h1, h2⟩ := h
  exact ⟨n, r, M', h1, hq _ _ h2⟩
end SFQ
