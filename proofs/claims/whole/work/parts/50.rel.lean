/-! the relation between calls -/
/-- two rows of a stove say the same of n persons -/
def sf_req (n : Nat) (S T : Nat → Int) : Prop := (S 0 = T 0) ∧ (S 1 = T 1) ∧ (S 2 = T 2) ∧ (∀ p, p < n → S (p + 4) = T (p + 4)) ∧ (∀ p, p < n → S (p + 9) = T (p + 9)) ∧ (∀ e, e < 6 → S (e + 14) = T (e + 14))
theorem sf_req.d {n : Nat} {S T : Nat → Int} (h : sf_req n S T) : S 0 = T 0 := h.1
theorem sf_req.l {n : Nat} {S T : Nat → Int} (h : sf_req n S T) : S 1 = T 1 := h.2.1
theorem sf_req.h {n : Nat} {S T : Nat → Int} (h : sf_req n S T) : S 2 = T 2 := h.2.2.1
theorem sf_req.w {n : Nat} {S T : Nat → Int} (h : sf_req n S T) : ∀ p, p < n → S (p + 4) = T (p + 4) := h.2.2.2.1
theorem sf_req.i {n : Nat} {S T : Nat → Int} (h : sf_req n S T) : ∀ p, p < n → S (p + 9) = T (p + 9) := h.2.2.2.2.1
theorem sf_req.r {n : Nat} {S T : Nat → Int} (h : sf_req n S T) : ∀ e, e < 6 → S (e + 14) = T (e + 14) := h.2.2.2.2.2
theorem sf_req.mk {n : Nat} {S T : Nat → Int} (h0 : S 0 = T 0) (h1 : S 1 = T 1) (h2 : S 2 = T 2) (h3 : ∀ p, p < n → S (p + 4) = T (p + 4)) (h4 : ∀ p, p < n → S (p + 9) = T (p + 9)) (h5 : ∀ e, e < 6 → S (e + 14) = T (e + 14)) : sf_req n S T := ⟨h0, h1, h2, h3, h4, h5⟩
/-- a row of a stove is in order, its hour at most B -/
def sf_rok (n : Nat) (B : Int) (S : Nat → Int) : Prop := ((n = 0 ∧ S 0 = -1) ∨ (0 ≤ S 0 ∧ S 0 < n)) ∧ (0 ≤ S 1 ∧ S 1 ≤ 9999) ∧ (0 ≤ S 2 ∧ S 2 ≤ B) ∧ (∀ p, p < 5 → 0 ≤ S (p + 4) ∧ S (p + 4) ≤ 99) ∧ (∀ p, p < n → -1 ≤ S (p + 9) ∧ S (p + 9) < S 2) ∧ (∀ p, p < n → ∀ q, q < n → S (p + 9) = S (q + 9) → p = q ∨ S (p + 9) = -1) ∧ ((∀ p, p < n → S (p + 9) = -1) ∨ ∀ p, p < n → S (p + 9) ≤ S ((S 0).toNat + 9)) ∧ (∀ e, e < 6 → 0 ≤ S (e + 14) ∧ S (e + 14) ≤ 6)
theorem sf_rok.d {n : Nat} {B : Int} {S : Nat → Int} (h : sf_rok n B S) : (n = 0 ∧ S 0 = -1) ∨ (0 ≤ S 0 ∧ S 0 < n) := h.1
theorem sf_rok.l {n : Nat} {B : Int} {S : Nat → Int} (h : sf_rok n B S) : 0 ≤ S 1 ∧ S 1 ≤ 9999 := h.2.1
theorem sf_rok.h {n : Nat} {B : Int} {S : Nat → Int} (h : sf_rok n B S) : 0 ≤ S 2 ∧ S 2 ≤ B := h.2.2.1
theorem sf_rok.w {n : Nat} {B : Int} {S : Nat → Int} (h : sf_rok n B S) : ∀ p, p < 5 → 0 ≤ S (p + 4) ∧ S (p + 4) ≤ 99 := h.2.2.2.1
theorem sf_rok.i {n : Nat} {B : Int} {S : Nat → Int} (h : sf_rok n B S) : ∀ p, p < n → -1 ≤ S (p + 9) ∧ S (p + 9) < S 2 := h.2.2.2.2.1
theorem sf_rok.a {n : Nat} {B : Int} {S : Nat → Int} (h : sf_rok n B S) : ∀ p, p < n → ∀ q, q < n → S (p + 9) = S (q + 9) → p = q ∨ S (p + 9) = -1 := h.2.2.2.2.2.1
theorem sf_rok.m {n : Nat} {B : Int} {S : Nat → Int} (h : sf_rok n B S) : (∀ p, p < n → S (p + 9) = -1) ∨ ∀ p, p < n → S (p + 9) ≤ S ((S 0).toNat + 9) := h.2.2.2.2.2.2.1
theorem sf_rok.r {n : Nat} {B : Int} {S : Nat → Int} (h : sf_rok n B S) : ∀ e, e < 6 → 0 ≤ S (e + 14) ∧ S (e + 14) ≤ 6 := h.2.2.2.2.2.2.2
theorem sf_rok.mk {n : Nat} {B : Int} {S : Nat → Int} (h0 : (n = 0 ∧ S 0 = -1) ∨ (0 ≤ S 0 ∧ S 0 < n)) (h1 : 0 ≤ S 1 ∧ S 1 ≤ 9999) (h2 : 0 ≤ S 2 ∧ S 2 ≤ B) (h3 : ∀ p, p < 5 → 0 ≤ S (p + 4) ∧ S (p + 4) ≤ 99) (h4 : ∀ p, p < n → -1 ≤ S (p + 9) ∧ S (p + 9) < S 2) (h5 : ∀ p, p < n → ∀ q, q < n → S (p + 9) = S (q + 9) → p = q ∨ S (p + 9) = -1) (h6 : (∀ p, p < n → S (p + 9) = -1) ∨ ∀ p, p < n → S (p + 9) ≤ S ((S 0).toNat + 9)) (h7 : ∀ e, e < 6 → 0 ≤ S (e + 14) ∧ S (e + 14) ≤ 6) : sf_rok n B S := ⟨h0, h1, h2, h3, h4, h5, h6, h7⟩
theorem sf_rok_le {n : Nat} {B C : Int} {S : Nat → Int} (h : sf_rok n B S) (hb : B ≤ C) : sf_rok n C S :=
  sf_rok.mk h.d h.l ⟨h.h.1, by have := h.h.2; omega⟩ h.w h.i h.a h.m h.r
def sf_GA (n : Nat) (hn hg : Int) (hc hs : Nat → Int) (yn yg : Int) (yc ys : Nat → Int) : Prop := (n ≤ 5) ∧ (hn = n) ∧ (yn = n) ∧ (hg = yg) ∧ (0 ≤ yg ∧ yg ≤ 20) ∧ (∀ p, p < n → hc p = yc p) ∧ (∀ p, p < 5 → 0 ≤ hc p ∧ hc p ≤ 9) ∧ (∀ p, p < 5 → 0 ≤ yc p ∧ yc p ≤ 9) ∧ (∀ e, e < 6 → hs e = ys e) ∧ (∀ e, e < 6 → 0 ≤ ys e ∧ ys e ≤ 9)
theorem sf_GA.n5 {n : Nat} {hn hg : Int} {hc hs : Nat → Int} {yn yg : Int} {yc ys : Nat → Int} (h : sf_GA n hn hg hc hs yn yg yc ys) : n ≤ 5 := h.1
theorem sf_GA.xn {n : Nat} {hn hg : Int} {hc hs : Nat → Int} {yn yg : Int} {yc ys : Nat → Int} (h : sf_GA n hn hg hc hs yn yg yc ys) : hn = n := h.2.1
theorem sf_GA.yn {n : Nat} {hn hg : Int} {hc hs : Nat → Int} {yn yg : Int} {yc ys : Nat → Int} (h : sf_GA n hn hg hc hs yn yg yc ys) : yn = n := h.2.2.1
theorem sf_GA.g {n : Nat} {hn hg : Int} {hc hs : Nat → Int} {yn yg : Int} {yc ys : Nat → Int} (h : sf_GA n hn hg hc hs yn yg yc ys) : hg = yg := h.2.2.2.1
theorem sf_GA.g0 {n : Nat} {hn hg : Int} {hc hs : Nat → Int} {yn yg : Int} {yc ys : Nat → Int} (h : sf_GA n hn hg hc hs yn yg yc ys) : 0 ≤ yg ∧ yg ≤ 20 := h.2.2.2.2.1
theorem sf_GA.c {n : Nat} {hn hg : Int} {hc hs : Nat → Int} {yn yg : Int} {yc ys : Nat → Int} (h : sf_GA n hn hg hc hs yn yg yc ys) : ∀ p, p < n → hc p = yc p := h.2.2.2.2.2.1
theorem sf_GA.cx {n : Nat} {hn hg : Int} {hc hs : Nat → Int} {yn yg : Int} {yc ys : Nat → Int} (h : sf_GA n hn hg hc hs yn yg yc ys) : ∀ p, p < 5 → 0 ≤ hc p ∧ hc p ≤ 9 := h.2.2.2.2.2.2.1
theorem sf_GA.cy {n : Nat} {hn hg : Int} {hc hs : Nat → Int} {yn yg : Int} {yc ys : Nat → Int} (h : sf_GA n hn hg hc hs yn yg yc ys) : ∀ p, p < 5 → 0 ≤ yc p ∧ yc p ≤ 9 := h.2.2.2.2.2.2.2.1
theorem sf_GA.s {n : Nat} {hn hg : Int} {hc hs : Nat → Int} {yn yg : Int} {yc ys : Nat → Int} (h : sf_GA n hn hg hc hs yn yg yc ys) : ∀ e, e < 6 → hs e = ys e := h.2.2.2.2.2.2.2.2.1
theorem sf_GA.s0 {n : Nat} {hn hg : Int} {hc hs : Nat → Int} {yn yg : Int} {yc ys : Nat → Int} (h : sf_GA n hn hg hc hs yn yg yc ys) : ∀ e, e < 6 → 0 ≤ ys e ∧ ys e ≤ 9 := h.2.2.2.2.2.2.2.2.2
theorem sf_GA.mk {n : Nat} {hn hg : Int} {hc hs : Nat → Int} {yn yg : Int} {yc ys : Nat → Int} (h0 : n ≤ 5) (h1 : hn = n) (h2 : yn = n) (h3 : hg = yg) (h4 : 0 ≤ yg ∧ yg ≤ 20) (h5 : ∀ p, p < n → hc p = yc p) (h6 : ∀ p, p < 5 → 0 ≤ hc p ∧ hc p ≤ 9) (h7 : ∀ p, p < 5 → 0 ≤ yc p ∧ yc p ≤ 9) (h8 : ∀ e, e < 6 → hs e = ys e) (h9 : ∀ e, e < 6 → 0 ≤ ys e ∧ ys e ≤ 9) : sf_GA n hn hg hc hs yn yg yc ys := ⟨h0, h1, h2, h3, h4, h5, h6, h7, h8, h9⟩
def sf_GB (n : Nat) (S : Nat → Int) (sd : Int) (T : Nat → Int) : Prop := (sf_req n S T) ∧ (sf_rok n 90099 S) ∧ (sf_rok n 90099 T) ∧ (sd = T 3) ∧ (0 ≤ T 3 ∧ T 3 ≤ 2147483647)
theorem sf_GB.q {n : Nat} {S : Nat → Int} {sd : Int} {T : Nat → Int} (h : sf_GB n S sd T) : sf_req n S T := h.1
theorem sf_GB.x {n : Nat} {S : Nat → Int} {sd : Int} {T : Nat → Int} (h : sf_GB n S sd T) : sf_rok n 90099 S := h.2.1
theorem sf_GB.y {n : Nat} {S : Nat → Int} {sd : Int} {T : Nat → Int} (h : sf_GB n S sd T) : sf_rok n 90099 T := h.2.2.1
theorem sf_GB.s {n : Nat} {S : Nat → Int} {sd : Int} {T : Nat → Int} (h : sf_GB n S sd T) : sd = T 3 := h.2.2.2.1
theorem sf_GB.s0 {n : Nat} {S : Nat → Int} {sd : Int} {T : Nat → Int} (h : sf_GB n S sd T) : 0 ≤ T 3 ∧ T 3 ≤ 2147483647 := h.2.2.2.2
theorem sf_GB.mk {n : Nat} {S : Nat → Int} {sd : Int} {T : Nat → Int} (h0 : sf_req n S T) (h1 : sf_rok n 90099 S) (h2 : sf_rok n 90099 T) (h3 : sd = T 3) (h4 : 0 ≤ T 3 ∧ T 3 ≤ 2147483647) : sf_GB n S sd T := ⟨h0, h1, h2, h3, h4⟩
def sf_GC (n : Nat) (px pc : Int) (ring : Nat → Nat → Int) (yu : Int) (was : Nat → Int) (nx c : Nat) : Prop := (px = nx) ∧ (nx < 30) ∧ (pc = c) ∧ (c ≤ 30) ∧ (yu = c) ∧ (∀ j, j < c → sf_req n (ring (sf_bk nx (j + 1))) (fun k => was (20 * (c - 1 - j) + k))) ∧ (∀ j, j < c → sf_rok n 90099 (ring (sf_bk nx (j + 1)))) ∧ (∀ j, j < c → sf_rok n 90099 (fun k => was (20 * (c - 1 - j) + k)))
theorem sf_GC.x {n : Nat} {px pc : Int} {ring : Nat → Nat → Int} {yu : Int} {was : Nat → Int} {nx c : Nat} (h : sf_GC n px pc ring yu was nx c) : px = nx := h.1
theorem sf_GC.nx {n : Nat} {px pc : Int} {ring : Nat → Nat → Int} {yu : Int} {was : Nat → Int} {nx c : Nat} (h : sf_GC n px pc ring yu was nx c) : nx < 30 := h.2.1
theorem sf_GC.c {n : Nat} {px pc : Int} {ring : Nat → Nat → Int} {yu : Int} {was : Nat → Int} {nx c : Nat} (h : sf_GC n px pc ring yu was nx c) : pc = c := h.2.2.1
theorem sf_GC.c30 {n : Nat} {px pc : Int} {ring : Nat → Nat → Int} {yu : Int} {was : Nat → Int} {nx c : Nat} (h : sf_GC n px pc ring yu was nx c) : c ≤ 30 := h.2.2.2.1
theorem sf_GC.u {n : Nat} {px pc : Int} {ring : Nat → Nat → Int} {yu : Int} {was : Nat → Int} {nx c : Nat} (h : sf_GC n px pc ring yu was nx c) : yu = c := h.2.2.2.2.1
theorem sf_GC.q {n : Nat} {px pc : Int} {ring : Nat → Nat → Int} {yu : Int} {was : Nat → Int} {nx c : Nat} (h : sf_GC n px pc ring yu was nx c) : ∀ j, j < c → sf_req n (ring (sf_bk nx (j + 1))) (fun k => was (20 * (c - 1 - j) + k)) := h.2.2.2.2.2.1
theorem sf_GC.rx {n : Nat} {px pc : Int} {ring : Nat → Nat → Int} {yu : Int} {was : Nat → Int} {nx c : Nat} (h : sf_GC n px pc ring yu was nx c) : ∀ j, j < c → sf_rok n 90099 (ring (sf_bk nx (j + 1))) := h.2.2.2.2.2.2.1
theorem sf_GC.ry {n : Nat} {px pc : Int} {ring : Nat → Nat → Int} {yu : Int} {was : Nat → Int} {nx c : Nat} (h : sf_GC n px pc ring yu was nx c) : ∀ j, j < c → sf_rok n 90099 (fun k => was (20 * (c - 1 - j) + k)) := h.2.2.2.2.2.2.2
theorem sf_GC.mk {n : Nat} {px pc : Int} {ring : Nat → Nat → Int} {yu : Int} {was : Nat → Int} {nx c : Nat} (h0 : px = nx) (h1 : nx < 30) (h2 : pc = c) (h3 : c ≤ 30) (h4 : yu = c) (h5 : ∀ j, j < c → sf_req n (ring (sf_bk nx (j + 1))) (fun k => was (20 * (c - 1 - j) + k))) (h6 : ∀ j, j < c → sf_rok n 90099 (ring (sf_bk nx (j + 1)))) (h7 : ∀ j, j < c → sf_rok n 90099 (fun k => was (20 * (c - 1 - j) + k))) : sf_GC n px pc ring yu was nx c := ⟨h0, h1, h2, h3, h4, h5, h6, h7⟩
def sf_GD (n : Nat) (shelf : Nat → Nat → Int) (sd tk : Nat → Int) (im kp : Nat → Int) : Prop := (∀ i, i < 2 → tk i = kp i ∧ (kp i = 0 ∨ kp i = 1)) ∧ (∀ i, i < 2 → kp i = 1 → sf_req n (shelf i) (fun k => im (20 * i + k))) ∧ (∀ i, i < 2 → kp i = 1 → sf_rok n 90099 (shelf i)) ∧ (∀ i, i < 2 → kp i = 1 → sf_rok n 90099 (fun k => im (20 * i + k))) ∧ (∀ i, i < 2 → kp i = 1 → sd i = im (20 * i + 3) ∧ 0 ≤ im (20 * i + 3) ∧ im (20 * i + 3) ≤ 2147483647)
theorem sf_GD.t {n : Nat} {shelf : Nat → Nat → Int} {sd tk : Nat → Int} {im kp : Nat → Int} (h : sf_GD n shelf sd tk im kp) : ∀ i, i < 2 → tk i = kp i ∧ (kp i = 0 ∨ kp i = 1) := h.1
theorem sf_GD.q {n : Nat} {shelf : Nat → Nat → Int} {sd tk : Nat → Int} {im kp : Nat → Int} (h : sf_GD n shelf sd tk im kp) : ∀ i, i < 2 → kp i = 1 → sf_req n (shelf i) (fun k => im (20 * i + k)) := h.2.1
theorem sf_GD.x {n : Nat} {shelf : Nat → Nat → Int} {sd tk : Nat → Int} {im kp : Nat → Int} (h : sf_GD n shelf sd tk im kp) : ∀ i, i < 2 → kp i = 1 → sf_rok n 90099 (shelf i) := h.2.2.1
theorem sf_GD.y {n : Nat} {shelf : Nat → Nat → Int} {sd tk : Nat → Int} {im kp : Nat → Int} (h : sf_GD n shelf sd tk im kp) : ∀ i, i < 2 → kp i = 1 → sf_rok n 90099 (fun k => im (20 * i + k)) := h.2.2.2.1
theorem sf_GD.s {n : Nat} {shelf : Nat → Nat → Int} {sd tk : Nat → Int} {im kp : Nat → Int} (h : sf_GD n shelf sd tk im kp) : ∀ i, i < 2 → kp i = 1 → sd i = im (20 * i + 3) ∧ 0 ≤ im (20 * i + 3) ∧ im (20 * i + 3) ≤ 2147483647 := h.2.2.2.2
theorem sf_GD.mk {n : Nat} {shelf : Nat → Nat → Int} {sd tk : Nat → Int} {im kp : Nat → Int} (h0 : ∀ i, i < 2 → tk i = kp i ∧ (kp i = 0 ∨ kp i = 1)) (h1 : ∀ i, i < 2 → kp i = 1 → sf_req n (shelf i) (fun k => im (20 * i + k))) (h2 : ∀ i, i < 2 → kp i = 1 → sf_rok n 90099 (shelf i)) (h3 : ∀ i, i < 2 → kp i = 1 → sf_rok n 90099 (fun k => im (20 * i + k))) (h4 : ∀ i, i < 2 → kp i = 1 → sd i = im (20 * i + 3) ∧ 0 ≤ im (20 * i + 3) ∧ im (20 * i + 3) ≤ 2147483647) : sf_GD n shelf sd tk im kp := ⟨h0, h1, h2, h3, h4⟩
def sf_GE (n : Nat) (n0 n1 n2 n3 : Nat → Int) (xc yc : Int) (no : Nat → Int) (c : Nat) : Prop := (c ≤ 12) ∧ (xc = c) ∧ (yc = c) ∧ (∀ j, j < c → n0 j = no (4 * j) ∧ n1 j = no (4 * j + 1) ∧ n2 j = no (4 * j + 2) ∧ n3 j = no (4 * j + 3)) ∧ (∀ j, j < c → (0 ≤ no (4 * j) ∧ no (4 * j) < 6) ∧ (0 ≤ no (4 * j + 1) ∧ no (4 * j + 1) < n) ∧ (0 ≤ no (4 * j + 2) ∧ no (4 * j + 2) < n) ∧ (0 ≤ no (4 * j + 3) ∧ no (4 * j + 3) < n))
theorem sf_GE.c12 {n : Nat} {n0 n1 n2 n3 : Nat → Int} {xc yc : Int} {no : Nat → Int} {c : Nat} (h : sf_GE n n0 n1 n2 n3 xc yc no c) : c ≤ 12 := h.1
theorem sf_GE.x {n : Nat} {n0 n1 n2 n3 : Nat → Int} {xc yc : Int} {no : Nat → Int} {c : Nat} (h : sf_GE n n0 n1 n2 n3 xc yc no c) : xc = c := h.2.1
theorem sf_GE.y {n : Nat} {n0 n1 n2 n3 : Nat → Int} {xc yc : Int} {no : Nat → Int} {c : Nat} (h : sf_GE n n0 n1 n2 n3 xc yc no c) : yc = c := h.2.2.1
theorem sf_GE.e {n : Nat} {n0 n1 n2 n3 : Nat → Int} {xc yc : Int} {no : Nat → Int} {c : Nat} (h : sf_GE n n0 n1 n2 n3 xc yc no c) : ∀ j, j < c → n0 j = no (4 * j) ∧ n1 j = no (4 * j + 1) ∧ n2 j = no (4 * j + 2) ∧ n3 j = no (4 * j + 3) := h.2.2.2.1
theorem sf_GE.r {n : Nat} {n0 n1 n2 n3 : Nat → Int} {xc yc : Int} {no : Nat → Int} {c : Nat} (h : sf_GE n n0 n1 n2 n3 xc yc no c) : ∀ j, j < c → (0 ≤ no (4 * j) ∧ no (4 * j) < 6) ∧ (0 ≤ no (4 * j + 1) ∧ no (4 * j + 1) < n) ∧ (0 ≤ no (4 * j + 2) ∧ no (4 * j + 2) < n) ∧ (0 ≤ no (4 * j + 3) ∧ no (4 * j + 3) < n) := h.2.2.2.2
theorem sf_GE.mk {n : Nat} {n0 n1 n2 n3 : Nat → Int} {xc yc : Int} {no : Nat → Int} {c : Nat} (h0 : c ≤ 12) (h1 : xc = c) (h2 : yc = c) (h3 : ∀ j, j < c → n0 j = no (4 * j) ∧ n1 j = no (4 * j + 1) ∧ n2 j = no (4 * j + 2) ∧ n3 j = no (4 * j + 3)) (h4 : ∀ j, j < c → (0 ≤ no (4 * j) ∧ no (4 * j) < 6) ∧ (0 ≤ no (4 * j + 1) ∧ no (4 * j + 1) < n) ∧ (0 ≤ no (4 * j + 2) ∧ no (4 * j + 2) < n) ∧ (0 ≤ no (4 * j + 3) ∧ no (4 * j + 3) < n)) : sf_GE n n0 n1 n2 n3 xc yc no c := ⟨h0, h1, h2, h3, h4⟩
def sf_GF (n : Nat) (b0 b1 : Nat → Int) (xc yc : Int) (bo : Nat → Int) (c : Nat) : Prop := (c ≤ 20) ∧ (xc = c) ∧ (yc = c) ∧ (∀ j, j < c → b0 j = bo (2 * j) ∧ b1 j = bo (2 * j + 1)) ∧ (∀ j, j < c → (0 ≤ bo (2 * j) ∧ bo (2 * j) < 6) ∧ (0 ≤ bo (2 * j + 1) ∧ bo (2 * j + 1) < n))
theorem sf_GF.c20 {n : Nat} {b0 b1 : Nat → Int} {xc yc : Int} {bo : Nat → Int} {c : Nat} (h : sf_GF n b0 b1 xc yc bo c) : c ≤ 20 := h.1
theorem sf_GF.x {n : Nat} {b0 b1 : Nat → Int} {xc yc : Int} {bo : Nat → Int} {c : Nat} (h : sf_GF n b0 b1 xc yc bo c) : xc = c := h.2.1
theorem sf_GF.y {n : Nat} {b0 b1 : Nat → Int} {xc yc : Int} {bo : Nat → Int} {c : Nat} (h : sf_GF n b0 b1 xc yc bo c) : yc = c := h.2.2.1
theorem sf_GF.e {n : Nat} {b0 b1 : Nat → Int} {xc yc : Int} {bo : Nat → Int} {c : Nat} (h : sf_GF n b0 b1 xc yc bo c) : ∀ j, j < c → b0 j = bo (2 * j) ∧ b1 j = bo (2 * j + 1) := h.2.2.2.1
theorem sf_GF.r {n : Nat} {b0 b1 : Nat → Int} {xc yc : Int} {bo : Nat → Int} {c : Nat} (h : sf_GF n b0 b1 xc yc bo c) : ∀ j, j < c → (0 ≤ bo (2 * j) ∧ bo (2 * j) < 6) ∧ (0 ≤ bo (2 * j + 1) ∧ bo (2 * j + 1) < n) := h.2.2.2.2
theorem sf_GF.mk {n : Nat} {b0 b1 : Nat → Int} {xc yc : Int} {bo : Nat → Int} {c : Nat} (h0 : c ≤ 20) (h1 : xc = c) (h2 : yc = c) (h3 : ∀ j, j < c → b0 j = bo (2 * j) ∧ b1 j = bo (2 * j + 1)) (h4 : ∀ j, j < c → (0 ≤ bo (2 * j) ∧ bo (2 * j) < 6) ∧ (0 ≤ bo (2 * j + 1) ∧ bo (2 * j + 1) < n)) : sf_GF n b0 b1 xc yc bo c := ⟨h0, h1, h2, h3, h4⟩
def sf_GG (tx : Nat → Int) (xl xf : Int) (ty : Nat → Int) (yl yf : Int) (rw rc : Nat → Int) (c : Nat) : Prop := (c ≤ 200) ∧ (xl = c) ∧ (yl = c) ∧ (xf = yf) ∧ (∀ j, j < c → tx j = ty j ∧ 0 ≤ ty j ∧ ty j ≤ 255) ∧ (∀ p, p < 5 → 0 ≤ rw p ∧ rw p ≤ 99) ∧ (∀ p, p < 5 → 0 ≤ rc p ∧ rc p ≤ 9)
theorem sf_GG.c200 {tx : Nat → Int} {xl xf : Int} {ty : Nat → Int} {yl yf : Int} {rw rc : Nat → Int} {c : Nat} (h : sf_GG tx xl xf ty yl yf rw rc c) : c ≤ 200 := h.1
theorem sf_GG.x {tx : Nat → Int} {xl xf : Int} {ty : Nat → Int} {yl yf : Int} {rw rc : Nat → Int} {c : Nat} (h : sf_GG tx xl xf ty yl yf rw rc c) : xl = c := h.2.1
theorem sf_GG.y {tx : Nat → Int} {xl xf : Int} {ty : Nat → Int} {yl yf : Int} {rw rc : Nat → Int} {c : Nat} (h : sf_GG tx xl xf ty yl yf rw rc c) : yl = c := h.2.2.1
theorem sf_GG.f {tx : Nat → Int} {xl xf : Int} {ty : Nat → Int} {yl yf : Int} {rw rc : Nat → Int} {c : Nat} (h : sf_GG tx xl xf ty yl yf rw rc c) : xf = yf := h.2.2.2.1
theorem sf_GG.e {tx : Nat → Int} {xl xf : Int} {ty : Nat → Int} {yl yf : Int} {rw rc : Nat → Int} {c : Nat} (h : sf_GG tx xl xf ty yl yf rw rc c) : ∀ j, j < c → tx j = ty j ∧ 0 ≤ ty j ∧ ty j ≤ 255 := h.2.2.2.2.1
theorem sf_GG.w {tx : Nat → Int} {xl xf : Int} {ty : Nat → Int} {yl yf : Int} {rw rc : Nat → Int} {c : Nat} (h : sf_GG tx xl xf ty yl yf rw rc c) : ∀ p, p < 5 → 0 ≤ rw p ∧ rw p ≤ 99 := h.2.2.2.2.2.1
theorem sf_GG.o {tx : Nat → Int} {xl xf : Int} {ty : Nat → Int} {yl yf : Int} {rw rc : Nat → Int} {c : Nat} (h : sf_GG tx xl xf ty yl yf rw rc c) : ∀ p, p < 5 → 0 ≤ rc p ∧ rc p ≤ 9 := h.2.2.2.2.2.2
theorem sf_GG.mk {tx : Nat → Int} {xl xf : Int} {ty : Nat → Int} {yl yf : Int} {rw rc : Nat → Int} {c : Nat} (h0 : c ≤ 200) (h1 : xl = c) (h2 : yl = c) (h3 : xf = yf) (h4 : ∀ j, j < c → tx j = ty j ∧ 0 ≤ ty j ∧ ty j ≤ 255) (h5 : ∀ p, p < 5 → 0 ≤ rw p ∧ rw p ≤ 99) (h6 : ∀ p, p < 5 → 0 ≤ rc p ∧ rc p ≤ 9) : sf_GG tx xl xf ty yl yf rw rc c := ⟨h0, h1, h2, h3, h4, h5, h6⟩
def sf_sh (i : Nat) : Nat := sf_rf (sf_rf (sf_rf 0 5) 0) i
/-- the two parts say the same -/
def sf_RR (V : sf_MV) (n nx c ce cf cg : Nat) : Prop := (sf_GA n (V (sf_rf 0 1) 4) (V (sf_rf 0 1) 6) (V (sf_rf (sf_rf (sf_rf 0 1) 1) 0)) (V (sf_rf (sf_rf (sf_rf 0 1) 2) 0)) (V 409 0) (V 409 1) (V (sf_rf 409 2)) (V (sf_rf 409 3))) ∧ (sf_GB n (sf_getS V (sf_rf 0 2)) (V 0 13) (V (sf_rf 409 4))) ∧ (sf_GC n (V (sf_rf 0 4) 1) (V (sf_rf 0 4) 2) (fun i => sf_getS V (sf_rg i)) (V 409 6) (V (sf_rf 409 5)) nx c) ∧ (sf_GD n (fun i => sf_getS V (sf_sh i)) (V (sf_rf (sf_rf 0 6) 0)) (V (sf_rf (sf_rf 0 7) 0)) (V (sf_rf 409 7)) (V (sf_rf 409 8))) ∧ (sf_GE n (V (sf_rf (sf_rf (sf_rf 0 8) 0) 0)) (V (sf_rf (sf_rf (sf_rf 0 8) 1) 0)) (V (sf_rf (sf_rf (sf_rf 0 8) 2) 0)) (V (sf_rf (sf_rf (sf_rf 0 8) 3) 0)) (V (sf_rf 0 8) 4) (V 409 10) (V (sf_rf 409 9)) ce) ∧ (sf_GF n (V (sf_rf (sf_rf (sf_rf 0 9) 0) 0)) (V (sf_rf (sf_rf (sf_rf 0 9) 1) 0)) (V (sf_rf 0 9) 2) (V 409 12) (V (sf_rf 409 11)) cf) ∧ (sf_GG (V (sf_rf (sf_rf (sf_rf 0 0) 0) 0)) (V (sf_rf 0 0) 2) (V (sf_rf 0 0) 3) (V (sf_rf 409 13)) (V 409 14) (V 409 15) (V (sf_rf 409 19)) (V (sf_rf 409 20)) cg)
theorem sf_RR.a {V : sf_MV} {n nx c ce cf cg : Nat} (h : sf_RR V n nx c ce cf cg) : sf_GA n (V (sf_rf 0 1) 4) (V (sf_rf 0 1) 6) (V (sf_rf (sf_rf (sf_rf 0 1) 1) 0)) (V (sf_rf (sf_rf (sf_rf 0 1) 2) 0)) (V 409 0) (V 409 1) (V (sf_rf 409 2)) (V (sf_rf 409 3)) := h.1
theorem sf_RR.b {V : sf_MV} {n nx c ce cf cg : Nat} (h : sf_RR V n nx c ce cf cg) : sf_GB n (sf_getS V (sf_rf 0 2)) (V 0 13) (V (sf_rf 409 4)) := h.2.1
theorem sf_RR.c {V : sf_MV} {n nx c ce cf cg : Nat} (h : sf_RR V n nx c ce cf cg) : sf_GC n (V (sf_rf 0 4) 1) (V (sf_rf 0 4) 2) (fun i => sf_getS V (sf_rg i)) (V 409 6) (V (sf_rf 409 5)) nx c := h.2.2.1
theorem sf_RR.d {V : sf_MV} {n nx c ce cf cg : Nat} (h : sf_RR V n nx c ce cf cg) : sf_GD n (fun i => sf_getS V (sf_sh i)) (V (sf_rf (sf_rf 0 6) 0)) (V (sf_rf (sf_rf 0 7) 0)) (V (sf_rf 409 7)) (V (sf_rf 409 8)) := h.2.2.2.1
theorem sf_RR.e {V : sf_MV} {n nx c ce cf cg : Nat} (h : sf_RR V n nx c ce cf cg) : sf_GE n (V (sf_rf (sf_rf (sf_rf 0 8) 0) 0)) (V (sf_rf (sf_rf (sf_rf 0 8) 1) 0)) (V (sf_rf (sf_rf (sf_rf 0 8) 2) 0)) (V (sf_rf (sf_rf (sf_rf 0 8) 3) 0)) (V (sf_rf 0 8) 4) (V 409 10) (V (sf_rf 409 9)) ce := h.2.2.2.2.1
theorem sf_RR.f {V : sf_MV} {n nx c ce cf cg : Nat} (h : sf_RR V n nx c ce cf cg) : sf_GF n (V (sf_rf (sf_rf (sf_rf 0 9) 0) 0)) (V (sf_rf (sf_rf (sf_rf 0 9) 1) 0)) (V (sf_rf 0 9) 2) (V 409 12) (V (sf_rf 409 11)) cf := h.2.2.2.2.2.1
theorem sf_RR.g {V : sf_MV} {n nx c ce cf cg : Nat} (h : sf_RR V n nx c ce cf cg) : sf_GG (V (sf_rf (sf_rf (sf_rf 0 0) 0) 0)) (V (sf_rf 0 0) 2) (V (sf_rf 0 0) 3) (V (sf_rf 409 13)) (V 409 14) (V 409 15) (V (sf_rf 409 19)) (V (sf_rf 409 20)) cg := h.2.2.2.2.2.2
theorem sf_RR.mk {V : sf_MV} {n nx c ce cf cg : Nat} (h0 : sf_GA n (V (sf_rf 0 1) 4) (V (sf_rf 0 1) 6) (V (sf_rf (sf_rf (sf_rf 0 1) 1) 0)) (V (sf_rf (sf_rf (sf_rf 0 1) 2) 0)) (V 409 0) (V 409 1) (V (sf_rf 409 2)) (V (sf_rf 409 3))) (h1 : sf_GB n (sf_getS V (sf_rf 0 2)) (V 0 13) (V (sf_rf 409 4))) (h2 : sf_GC n (V (sf_rf 0 4) 1) (V (sf_rf 0 4) 2) (fun i => sf_getS V (sf_rg i)) (V 409 6) (V (sf_rf 409 5)) nx c) (h3 : sf_GD n (fun i => sf_getS V (sf_sh i)) (V (sf_rf (sf_rf 0 6) 0)) (V (sf_rf (sf_rf 0 7) 0)) (V (sf_rf 409 7)) (V (sf_rf 409 8))) (h4 : sf_GE n (V (sf_rf (sf_rf (sf_rf 0 8) 0) 0)) (V (sf_rf (sf_rf (sf_rf 0 8) 1) 0)) (V (sf_rf (sf_rf (sf_rf 0 8) 2) 0)) (V (sf_rf (sf_rf (sf_rf 0 8) 3) 0)) (V (sf_rf 0 8) 4) (V 409 10) (V (sf_rf 409 9)) ce) (h5 : sf_GF n (V (sf_rf (sf_rf (sf_rf 0 9) 0) 0)) (V (sf_rf (sf_rf (sf_rf 0 9) 1) 0)) (V (sf_rf 0 9) 2) (V 409 12) (V (sf_rf 409 11)) cf) (h6 : sf_GG (V (sf_rf (sf_rf (sf_rf 0 0) 0) 0)) (V (sf_rf 0 0) 2) (V (sf_rf 0 0) 3) (V (sf_rf 409 13)) (V 409 14) (V 409 15) (V (sf_rf 409 19)) (V (sf_rf 409 20)) cg) : sf_RR V n nx c ce cf cg := ⟨h0, h1, h2, h3, h4, h5, h6⟩
theorem sf_getS_congr {V W : sf_MV} {s : Nat} (h0 : W s = V s) (h1 : W (sf_rf (sf_rf s 0) 0) = V (sf_rf (sf_rf s 0) 0)) (h2 : W (sf_rf (sf_rf s 1) 0) = V (sf_rf (sf_rf s 1) 0)) (h3 : W (sf_rf (sf_rf s 2) 0) = V (sf_rf (sf_rf s 2) 0)) : sf_getS W s = sf_getS V s := by
  funext k
  unfold sf_getS sf_wa sf_si sf_la
  rw [h0, h1, h2, h3]
theorem sf_RR_frame {V W : sf_MV} {n nx c ce cf cg : Nat} (R : sf_RR V n nx c ce cf cg)
    (h0 : ∀ j, j < 10 → j ≠ 3 → W (sf_rf 0 j) = V (sf_rf 0 j))
    (h1 : ∀ j i, j < 10 → j ≠ 3 → W (sf_rf (sf_rf 0 j) i) = V (sf_rf (sf_rf 0 j) i))
    (h2 : ∀ j i k, j < 10 → j ≠ 3 → W (sf_rf (sf_rf (sf_rf 0 j) i) k) = V (sf_rf (sf_rf (sf_rf 0 j) i) k))
    (h3 : ∀ i, W (sf_rg i) = V (sf_rg i)) (h3' : ∀ i j, W (sf_rf (sf_rf (sf_rg i) j) 0) = V (sf_rf (sf_rf (sf_rg i) j) 0))
    (h4 : ∀ i, W (sf_sh i) = V (sf_sh i)) (h4' : ∀ i j, W (sf_rf (sf_rf (sf_sh i) j) 0) = V (sf_rf (sf_rf (sf_sh i) j) 0))
    (hy : ∀ j, j < 16 → W 409 j = V 409 j) (hs : W 0 13 = V 0 13)
    (hz : ∀ j, j < 21 → W (sf_rf 409 j) = V (sf_rf 409 j)) : sf_RR W n nx c ce cf cg := by
  have e1 : sf_getS W (sf_rf 0 2) = sf_getS V (sf_rf 0 2) := sf_getS_congr (h0 2 (by decide) (by decide)) (h2 2 0 0 (by decide) (by decide)) (h2 2 1 0 (by decide) (by decide)) (h2 2 2 0 (by decide) (by decide))
  have e2 : (fun i => sf_getS W (sf_rg i)) = fun i => sf_getS V (sf_rg i) := by
    funext i
    exact sf_getS_congr (h3 i) (h3' i 0) (h3' i 1) (h3' i 2)
  have e3 : (fun i => sf_getS W (sf_sh i)) = fun i => sf_getS V (sf_sh i) := by
    funext i
    exact sf_getS_congr (h4 i) (h4' i 0) (h4' i 1) (h4' i 2)
  refine sf_RR.mk ?_ ?_ ?_ ?_ ?_ ?_ ?_
  · rw [h0 1 (by decide) (by decide), h2 1 1 0 (by decide) (by decide), h2 1 2 0 (by decide) (by decide), hy 0 (by decide), hy 1 (by decide), hz 2 (by decide), hz 3 (by decide)]
    exact R.a
  · rw [e1, hs, hz 4 (by decide)]
    exact R.b
  · rw [e2, h0 4 (by decide) (by decide), hy 6 (by decide), hz 5 (by decide)]
    exact R.c
  · rw [e3, h1 6 0 (by decide) (by decide), h1 7 0 (by decide) (by decide), hz 7 (by decide), hz 8 (by decide)]
    exact R.d
  · rw [h2 8 0 0 (by decide) (by decide), h2 8 1 0 (by decide) (by decide), h2 8 2 0 (by decide) (by decide), h2 8 3 0 (by decide) (by decide), h0 8 (by decide) (by decide), hy 10 (by decide), hz 9 (by decide)]
    exact R.e
  · rw [h2 9 0 0 (by decide) (by decide), h2 9 1 0 (by decide) (by decide), h0 9 (by decide) (by decide), hy 12 (by decide), hz 11 (by decide)]
    exact R.f
  · rw [h2 0 0 0 (by decide) (by decide), h0 0 (by decide) (by decide), hz 13 (by decide), hy 14 (by decide), hy 15 (by decide), hz 19 (by decide), hz 20 (by decide)]
    exact R.g
