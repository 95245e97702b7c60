/-! THE RELATION between a craft's memory and the model's rows; what holds of every craft -/
abbrev i_rg (x : Int64) (a b : Int) : Prop := a ≤ x.toInt ∧ x.toInt ≤ b
abbrev i_rh (x : Int32) (a b : Int) : Prop := a ≤ x.toInt ∧ x.toInt ≤ b
abbrev r_S (κ : k_M) (I : Nat → Nat → Int32) (J : Nat → Nat → Int64) (n m : Nat) : Prop := (κ.1 1 0 = nI n) ∧ (n ≤ 4) ∧ (I 77 2 = nI n) ∧ (κ.1 23 0 = nI m) ∧ (m ≤ 6) ∧ (I 77 10 = nI m) ∧ (∀ t, t < n → J 80 t = (κ.1 2 t).toInt64) ∧ (∀ t, t < n → J 81 t = (κ.1 3 t).toInt64) ∧ (∀ t, t < n → J 82 t = κ.2 9 t) ∧ (∀ t, t < 4 → I 83 t = κ.1 4 t) ∧ (∀ t, t < 4 → I 84 t = κ.1 (11 + 3 * t) 0) ∧ (∀ t, t < 4 → ∀ i, i < 8 → I 85 (8 * t + i) = κ.1 (12 + 3 * t) i) ∧ (∀ t, t < 4 → ∀ i, i < 8 → I 86 (8 * t + i) = κ.1 (13 + 3 * t) i) ∧ (∀ e, e < m → I 89 e = κ.1 25 e) ∧ (∀ e, e < m → I 90 e = κ.1 26 e) ∧ (I 91 0 = κ.1 0 4) ∧ (I 91 1 = κ.1 0 5) ∧ (I 91 2 = κ.1 0 6) ∧ (∀ e, e < m → ∃ l, 0 < l ∧ l ≤ 6 ∧ I 88 e = nI l ∧ (∀ k, k < l → 97 ≤ I 87 (6 * e + k) ∧ I 87 (6 * e + k) ≤ 122) ∧ κ.1 24 e = p_nm (I 87) (6 * e) l)
theorem r_S.cn {κ : k_M} {I : Nat → Nat → Int32} {J : Nat → Nat → Int64} {n m : Nat} (h : r_S κ I J n m) : κ.1 1 0 = nI n := h.1
theorem r_S.n4 {κ : k_M} {I : Nat → Nat → Int32} {J : Nat → Nat → Int64} {n m : Nat} (h : r_S κ I J n m) : n ≤ 4 := h.2.1
theorem r_S.mn {κ : k_M} {I : Nat → Nat → Int32} {J : Nat → Nat → Int64} {n m : Nat} (h : r_S κ I J n m) : I 77 2 = nI n := h.2.2.1
theorem r_S.cm {κ : k_M} {I : Nat → Nat → Int32} {J : Nat → Nat → Int64} {n m : Nat} (h : r_S κ I J n m) : κ.1 23 0 = nI m := h.2.2.2.1
theorem r_S.m6 {κ : k_M} {I : Nat → Nat → Int32} {J : Nat → Nat → Int64} {n m : Nat} (h : r_S κ I J n m) : m ≤ 6 := h.2.2.2.2.1
theorem r_S.mm {κ : k_M} {I : Nat → Nat → Int32} {J : Nat → Nat → Int64} {n m : Nat} (h : r_S κ I J n m) : I 77 10 = nI m := h.2.2.2.2.2.1
theorem r_S.den {κ : k_M} {I : Nat → Nat → Int32} {J : Nat → Nat → Int64} {n m : Nat} (h : r_S κ I J n m) : ∀ t, t < n → J 80 t = (κ.1 2 t).toInt64 := h.2.2.2.2.2.2.1
theorem r_S.res {κ : k_M} {I : Nat → Nat → Int32} {J : Nat → Nat → Int64} {n m : Nat} (h : r_S κ I J n m) : ∀ t, t < n → J 81 t = (κ.1 3 t).toInt64 := h.2.2.2.2.2.2.2.1
theorem r_S.gau {κ : k_M} {I : Nat → Nat → Int32} {J : Nat → Nat → Int64} {n m : Nat} (h : r_S κ I J n m) : ∀ t, t < n → J 82 t = κ.2 9 t := h.2.2.2.2.2.2.2.2.1
theorem r_S.lk {κ : k_M} {I : Nat → Nat → Int32} {J : Nat → Nat → Int64} {n m : Nat} (h : r_S κ I J n m) : ∀ t, t < 4 → I 83 t = κ.1 4 t := h.2.2.2.2.2.2.2.2.2.1
theorem r_S.pts {κ : k_M} {I : Nat → Nat → Int32} {J : Nat → Nat → Int64} {n m : Nat} (h : r_S κ I J n m) : ∀ t, t < 4 → I 84 t = κ.1 (11 + 3 * t) 0 := h.2.2.2.2.2.2.2.2.2.2.1
theorem r_S.lvs {κ : k_M} {I : Nat → Nat → Int32} {J : Nat → Nat → Int64} {n m : Nat} (h : r_S κ I J n m) : ∀ t, t < 4 → ∀ i, i < 8 → I 85 (8 * t + i) = κ.1 (12 + 3 * t) i := h.2.2.2.2.2.2.2.2.2.2.2.1
theorem r_S.vos {κ : k_M} {I : Nat → Nat → Int32} {J : Nat → Nat → Int64} {n m : Nat} (h : r_S κ I J n m) : ∀ t, t < 4 → ∀ i, i < 8 → I 86 (8 * t + i) = κ.1 (13 + 3 * t) i := h.2.2.2.2.2.2.2.2.2.2.2.2.1
theorem r_S.flo {κ : k_M} {I : Nat → Nat → Int32} {J : Nat → Nat → Int64} {n m : Nat} (h : r_S κ I J n m) : ∀ e, e < m → I 89 e = κ.1 25 e := h.2.2.2.2.2.2.2.2.2.2.2.2.2.1
theorem r_S.dou {κ : k_M} {I : Nat → Nat → Int32} {J : Nat → Nat → Int64} {n m : Nat} (h : r_S κ I J n m) : ∀ e, e < m → I 90 e = κ.1 26 e := h.2.2.2.2.2.2.2.2.2.2.2.2.2.2.1
theorem r_S.s0 {κ : k_M} {I : Nat → Nat → Int32} {J : Nat → Nat → Int64} {n m : Nat} (h : r_S κ I J n m) : I 91 0 = κ.1 0 4 := h.2.2.2.2.2.2.2.2.2.2.2.2.2.2.2.1
theorem r_S.s1 {κ : k_M} {I : Nat → Nat → Int32} {J : Nat → Nat → Int64} {n m : Nat} (h : r_S κ I J n m) : I 91 1 = κ.1 0 5 := h.2.2.2.2.2.2.2.2.2.2.2.2.2.2.2.2.1
theorem r_S.s2 {κ : k_M} {I : Nat → Nat → Int32} {J : Nat → Nat → Int64} {n m : Nat} (h : r_S κ I J n m) : I 91 2 = κ.1 0 6 := h.2.2.2.2.2.2.2.2.2.2.2.2.2.2.2.2.2.1
theorem r_S.nam {κ : k_M} {I : Nat → Nat → Int32} {J : Nat → Nat → Int64} {n m : Nat} (h : r_S κ I J n m) : ∀ e, e < m → ∃ l, 0 < l ∧ l ≤ 6 ∧ I 88 e = nI l ∧ (∀ k, k < l → 97 ≤ I 87 (6 * e + k) ∧ I 87 (6 * e + k) ≤ 122) ∧ κ.1 24 e = p_nm (I 87) (6 * e) l := h.2.2.2.2.2.2.2.2.2.2.2.2.2.2.2.2.2.2
theorem r_S.mk {κ : k_M} {I : Nat → Nat → Int32} {J : Nat → Nat → Int64} {n m : Nat} (cn : κ.1 1 0 = nI n) (n4 : n ≤ 4) (mn : I 77 2 = nI n) (cm : κ.1 23 0 = nI m) (m6 : m ≤ 6) (mm : I 77 10 = nI m) (den : ∀ t, t < n → J 80 t = (κ.1 2 t).toInt64) (res : ∀ t, t < n → J 81 t = (κ.1 3 t).toInt64) (gau : ∀ t, t < n → J 82 t = κ.2 9 t) (lk : ∀ t, t < 4 → I 83 t = κ.1 4 t) (pts : ∀ t, t < 4 → I 84 t = κ.1 (11 + 3 * t) 0) (lvs : ∀ t, t < 4 → ∀ i, i < 8 → I 85 (8 * t + i) = κ.1 (12 + 3 * t) i) (vos : ∀ t, t < 4 → ∀ i, i < 8 → I 86 (8 * t + i) = κ.1 (13 + 3 * t) i) (flo : ∀ e, e < m → I 89 e = κ.1 25 e) (dou : ∀ e, e < m → I 90 e = κ.1 26 e) (s0 : I 91 0 = κ.1 0 4) (s1 : I 91 1 = κ.1 0 5) (s2 : I 91 2 = κ.1 0 6) (nam : ∀ e, e < m → ∃ l, 0 < l ∧ l ≤ 6 ∧ I 88 e = nI l ∧ (∀ k, k < l → 97 ≤ I 87 (6 * e + k) ∧ I 87 (6 * e + k) ≤ 122) ∧ κ.1 24 e = p_nm (I 87) (6 * e) l) : r_S κ I J n m := ⟨cn, n4, mn, cm, m6, mm, den, res, gau, lk, pts, lvs, vos, flo, dou, s0, s1, s2, nam⟩
abbrev r_D (κ : k_M) (R : Nat → Int64) (B : Int64) : Prop := (∀ t, t < 4 → R (5 * t + 0) = κ.2 5 t) ∧ (∀ t, t < 4 → R (5 * t + 1) = κ.2 6 t) ∧ (∀ t, t < 4 → R (5 * t + 2) = κ.2 7 t) ∧ (∀ t, t < 4 → R (5 * t + 3) = κ.2 8 t) ∧ (∀ t, t < 4 → R (5 * t + 4) = κ.2 35 t) ∧ (∀ e, e < 6 → R (20 + 3 * e + 0) = (k_open κ e).toInt64) ∧ (∀ e, e < 6 → R (20 + 3 * e + 1) = κ.2 28 e) ∧ (∀ e, e < 6 → R (20 + 3 * e + 2) = κ.2 29 e) ∧ (R 38 = (κ.1 0 3).toInt64) ∧ (R 39 = (κ.1 0 7).toInt64) ∧ (R 40 = (k_len κ).toInt64) ∧ (R 41 = (κ.1 0 8).toInt64) ∧ (R 139 = k_ball κ - B)
theorem r_D.t0 {κ : k_M} {R : Nat → Int64} {B : Int64} (h : r_D κ R B) : ∀ t, t < 4 → R (5 * t + 0) = κ.2 5 t := h.1
theorem r_D.t1 {κ : k_M} {R : Nat → Int64} {B : Int64} (h : r_D κ R B) : ∀ t, t < 4 → R (5 * t + 1) = κ.2 6 t := h.2.1
theorem r_D.t2 {κ : k_M} {R : Nat → Int64} {B : Int64} (h : r_D κ R B) : ∀ t, t < 4 → R (5 * t + 2) = κ.2 7 t := h.2.2.1
theorem r_D.t3 {κ : k_M} {R : Nat → Int64} {B : Int64} (h : r_D κ R B) : ∀ t, t < 4 → R (5 * t + 3) = κ.2 8 t := h.2.2.2.1
theorem r_D.t4 {κ : k_M} {R : Nat → Int64} {B : Int64} (h : r_D κ R B) : ∀ t, t < 4 → R (5 * t + 4) = κ.2 35 t := h.2.2.2.2.1
theorem r_D.e0 {κ : k_M} {R : Nat → Int64} {B : Int64} (h : r_D κ R B) : ∀ e, e < 6 → R (20 + 3 * e + 0) = (k_open κ e).toInt64 := h.2.2.2.2.2.1
theorem r_D.e1 {κ : k_M} {R : Nat → Int64} {B : Int64} (h : r_D κ R B) : ∀ e, e < 6 → R (20 + 3 * e + 1) = κ.2 28 e := h.2.2.2.2.2.2.1
theorem r_D.e2 {κ : k_M} {R : Nat → Int64} {B : Int64} (h : r_D κ R B) : ∀ e, e < 6 → R (20 + 3 * e + 2) = κ.2 29 e := h.2.2.2.2.2.2.2.1
theorem r_D.ti {κ : k_M} {R : Nat → Int64} {B : Int64} (h : r_D κ R B) : R 38 = (κ.1 0 3).toInt64 := h.2.2.2.2.2.2.2.2.1
theorem r_D.bu {κ : k_M} {R : Nat → Int64} {B : Int64} (h : r_D κ R B) : R 39 = (κ.1 0 7).toInt64 := h.2.2.2.2.2.2.2.2.2.1
theorem r_D.la {κ : k_M} {R : Nat → Int64} {B : Int64} (h : r_D κ R B) : R 40 = (k_len κ).toInt64 := h.2.2.2.2.2.2.2.2.2.2.1
theorem r_D.sv {κ : k_M} {R : Nat → Int64} {B : Int64} (h : r_D κ R B) : R 41 = (κ.1 0 8).toInt64 := h.2.2.2.2.2.2.2.2.2.2.2.1
theorem r_D.bk {κ : k_M} {R : Nat → Int64} {B : Int64} (h : r_D κ R B) : R 139 = k_ball κ - B := h.2.2.2.2.2.2.2.2.2.2.2.2
theorem r_D.mk {κ : k_M} {R : Nat → Int64} {B : Int64} (t0 : ∀ t, t < 4 → R (5 * t + 0) = κ.2 5 t) (t1 : ∀ t, t < 4 → R (5 * t + 1) = κ.2 6 t) (t2 : ∀ t, t < 4 → R (5 * t + 2) = κ.2 7 t) (t3 : ∀ t, t < 4 → R (5 * t + 3) = κ.2 8 t) (t4 : ∀ t, t < 4 → R (5 * t + 4) = κ.2 35 t) (e0 : ∀ e, e < 6 → R (20 + 3 * e + 0) = (k_open κ e).toInt64) (e1 : ∀ e, e < 6 → R (20 + 3 * e + 1) = κ.2 28 e) (e2 : ∀ e, e < 6 → R (20 + 3 * e + 2) = κ.2 29 e) (ti : R 38 = (κ.1 0 3).toInt64) (bu : R 39 = (κ.1 0 7).toInt64) (la : R 40 = (k_len κ).toInt64) (sv : R 41 = (κ.1 0 8).toInt64) (bk : R 139 = k_ball κ - B) : r_D κ R B := ⟨t0, t1, t2, t3, t4, e0, e1, e2, ti, bu, la, sv, bk⟩
abbrev r_L (κ : k_M) (R : Nat → Int64) : Prop := (R 42 = (κ.1 30 0).toInt64) ∧ (∀ i, i < kc κ → R (43 + 4 * i + 0) = (κ.1 31 ((kl κ + 24 - i) % 24)).toInt64 ∧ R (43 + 4 * i + 1) = (κ.1 32 ((kl κ + 24 - i) % 24)).toInt64 ∧ R (43 + 4 * i + 2) = (κ.1 33 ((kl κ + 24 - i) % 24)).toInt64 ∧ R (43 + 4 * i + 3) = κ.2 34 ((kl κ + 24 - i) % 24))
theorem r_L.ct {κ : k_M} {R : Nat → Int64} (h : r_L κ R) : R 42 = (κ.1 30 0).toInt64 := h.1
theorem r_L.en {κ : k_M} {R : Nat → Int64} (h : r_L κ R) : ∀ i, i < kc κ → R (43 + 4 * i + 0) = (κ.1 31 ((kl κ + 24 - i) % 24)).toInt64 ∧ R (43 + 4 * i + 1) = (κ.1 32 ((kl κ + 24 - i) % 24)).toInt64 ∧ R (43 + 4 * i + 2) = (κ.1 33 ((kl κ + 24 - i) % 24)).toInt64 ∧ R (43 + 4 * i + 3) = κ.2 34 ((kl κ + 24 - i) % 24) := h.2
theorem r_L.mk {κ : k_M} {R : Nat → Int64} (ct : R 42 = (κ.1 30 0).toInt64) (en : ∀ i, i < kc κ → R (43 + 4 * i + 0) = (κ.1 31 ((kl κ + 24 - i) % 24)).toInt64 ∧ R (43 + 4 * i + 1) = (κ.1 32 ((kl κ + 24 - i) % 24)).toInt64 ∧ R (43 + 4 * i + 2) = (κ.1 33 ((kl κ + 24 - i) % 24)).toInt64 ∧ R (43 + 4 * i + 3) = κ.2 34 ((kl κ + 24 - i) % 24)) : r_L κ R := ⟨ct, en⟩
abbrev r_V (κ : k_M) (n m : Nat) : Prop := (∀ t, t < 4 → i_rg (κ.2 5 t) 0 1000000000) ∧ (∀ t, t < 4 → i_rg (κ.2 6 t) 0 1000000000) ∧ (∀ t, t < 4 → i_rg (κ.2 8 t) 0 1000000000000000) ∧ (∀ t, t < 4 → i_rg (κ.2 9 t) 1 1000000000000) ∧ (∀ t, n ≤ t → t < 4 → κ.2 9 t = 1000000) ∧ (∀ t, t < n → i_rh (κ.1 2 t) 1 3000) ∧ (∀ t, t < 4 → i_rh (κ.1 4 t) 0 1000) ∧ (∀ e, e < m → i_rh (κ.1 25 e) 1 100000) ∧ (∀ e, e < m → i_rh (κ.1 26 e) 0 500) ∧ (∀ t, t < 4 → ∃ p, p ≤ 8 ∧ κ.1 (11 + 3 * t) 0 = nI p ∧ (∀ i, i < p → i_rh (κ.1 (12 + 3 * t) i) 0 10000 ∧ i_rh (κ.1 (13 + 3 * t) i) 0 1000000000) ∧ ∀ i, i + 1 < p → κ.1 (12 + 3 * t) i < κ.1 (12 + 3 * t) (i + 1) ∧ κ.1 (13 + 3 * t) i ≤ κ.1 (13 + 3 * t) (i + 1)) ∧ (i_rh (κ.1 0 6) 0 100) ∧ (i_rh (κ.1 0 3) 0 100000000) ∧ (κ.1 0 8 = 0 ∨ κ.1 0 8 = 1) ∧ ((κ.1 0 7 = -1 ∧ κ.1 0 8 = 0) ∨ ∃ e, e < m ∧ κ.1 0 7 = nI e ∧ 0 ≤ (κ.1 0 9).toInt ∧ (κ.1 0 9).toInt ≤ (κ.1 0 3).toInt ∧ ∀ t, t < 4 → 0 ≤ (κ.2 35 t).toInt ∧ (κ.2 6 t).toInt + (κ.2 35 t).toInt ≤ 1000000000) ∧ (∀ e, e < 6 → ∃ b, b < 16 ∧ κ.1 27 e = nI b ∧ (e < m → ∀ t, n ≤ t → t < 4 → b.testBit t = true) ∧ (m ≤ e → b = 0)) ∧ (k_lw κ)
theorem r_V.m0 {κ : k_M} {n m : Nat} (h : r_V κ n m) : ∀ t, t < 4 → i_rg (κ.2 5 t) 0 1000000000 := h.1
theorem r_V.m1 {κ : k_M} {n m : Nat} (h : r_V κ n m) : ∀ t, t < 4 → i_rg (κ.2 6 t) 0 1000000000 := h.2.1
theorem r_V.va {κ : k_M} {n m : Nat} (h : r_V κ n m) : ∀ t, t < 4 → i_rg (κ.2 8 t) 0 1000000000000000 := h.2.2.1
theorem r_V.gv {κ : k_M} {n m : Nat} (h : r_V κ n m) : ∀ t, t < 4 → i_rg (κ.2 9 t) 1 1000000000000 := h.2.2.2.1
theorem r_V.g6 {κ : k_M} {n m : Nat} (h : r_V κ n m) : ∀ t, n ≤ t → t < 4 → κ.2 9 t = 1000000 := h.2.2.2.2.1
theorem r_V.de {κ : k_M} {n m : Nat} (h : r_V κ n m) : ∀ t, t < n → i_rh (κ.1 2 t) 1 3000 := h.2.2.2.2.2.1
theorem r_V.lk {κ : k_M} {n m : Nat} (h : r_V κ n m) : ∀ t, t < 4 → i_rh (κ.1 4 t) 0 1000 := h.2.2.2.2.2.2.1
theorem r_V.fl {κ : k_M} {n m : Nat} (h : r_V κ n m) : ∀ e, e < m → i_rh (κ.1 25 e) 1 100000 := h.2.2.2.2.2.2.2.1
theorem r_V.dt {κ : k_M} {n m : Nat} (h : r_V κ n m) : ∀ e, e < m → i_rh (κ.1 26 e) 0 500 := h.2.2.2.2.2.2.2.2.1
theorem r_V.pt {κ : k_M} {n m : Nat} (h : r_V κ n m) : ∀ t, t < 4 → ∃ p, p ≤ 8 ∧ κ.1 (11 + 3 * t) 0 = nI p ∧ (∀ i, i < p → i_rh (κ.1 (12 + 3 * t) i) 0 10000 ∧ i_rh (κ.1 (13 + 3 * t) i) 0 1000000000) ∧ ∀ i, i + 1 < p → κ.1 (12 + 3 * t) i < κ.1 (12 + 3 * t) (i + 1) ∧ κ.1 (13 + 3 * t) i ≤ κ.1 (13 + 3 * t) (i + 1) := h.2.2.2.2.2.2.2.2.2.1
theorem r_V.mg {κ : k_M} {n m : Nat} (h : r_V κ n m) : i_rh (κ.1 0 6) 0 100 := h.2.2.2.2.2.2.2.2.2.2.1
theorem r_V.ti {κ : k_M} {n m : Nat} (h : r_V κ n m) : i_rh (κ.1 0 3) 0 100000000 := h.2.2.2.2.2.2.2.2.2.2.2.1
theorem r_V.sv {κ : k_M} {n m : Nat} (h : r_V κ n m) : κ.1 0 8 = 0 ∨ κ.1 0 8 = 1 := h.2.2.2.2.2.2.2.2.2.2.2.2.1
theorem r_V.bu {κ : k_M} {n m : Nat} (h : r_V κ n m) : (κ.1 0 7 = -1 ∧ κ.1 0 8 = 0) ∨ ∃ e, e < m ∧ κ.1 0 7 = nI e ∧ 0 ≤ (κ.1 0 9).toInt ∧ (κ.1 0 9).toInt ≤ (κ.1 0 3).toInt ∧ ∀ t, t < 4 → 0 ≤ (κ.2 35 t).toInt ∧ (κ.2 6 t).toInt + (κ.2 35 t).toInt ≤ 1000000000 := h.2.2.2.2.2.2.2.2.2.2.2.2.2.1
theorem r_V.op {κ : k_M} {n m : Nat} (h : r_V κ n m) : ∀ e, e < 6 → ∃ b, b < 16 ∧ κ.1 27 e = nI b ∧ (e < m → ∀ t, n ≤ t → t < 4 → b.testBit t = true) ∧ (m ≤ e → b = 0) := h.2.2.2.2.2.2.2.2.2.2.2.2.2.2.1
theorem r_V.lw {κ : k_M} {n m : Nat} (h : r_V κ n m) : k_lw κ := h.2.2.2.2.2.2.2.2.2.2.2.2.2.2.2
theorem r_V.mk {κ : k_M} {n m : Nat} (m0 : ∀ t, t < 4 → i_rg (κ.2 5 t) 0 1000000000) (m1 : ∀ t, t < 4 → i_rg (κ.2 6 t) 0 1000000000) (va : ∀ t, t < 4 → i_rg (κ.2 8 t) 0 1000000000000000) (gv : ∀ t, t < 4 → i_rg (κ.2 9 t) 1 1000000000000) (g6 : ∀ t, n ≤ t → t < 4 → κ.2 9 t = 1000000) (de : ∀ t, t < n → i_rh (κ.1 2 t) 1 3000) (lk : ∀ t, t < 4 → i_rh (κ.1 4 t) 0 1000) (fl : ∀ e, e < m → i_rh (κ.1 25 e) 1 100000) (dt : ∀ e, e < m → i_rh (κ.1 26 e) 0 500) (pt : ∀ t, t < 4 → ∃ p, p ≤ 8 ∧ κ.1 (11 + 3 * t) 0 = nI p ∧ (∀ i, i < p → i_rh (κ.1 (12 + 3 * t) i) 0 10000 ∧ i_rh (κ.1 (13 + 3 * t) i) 0 1000000000) ∧ ∀ i, i + 1 < p → κ.1 (12 + 3 * t) i < κ.1 (12 + 3 * t) (i + 1) ∧ κ.1 (13 + 3 * t) i ≤ κ.1 (13 + 3 * t) (i + 1)) (mg : i_rh (κ.1 0 6) 0 100) (ti : i_rh (κ.1 0 3) 0 100000000) (sv : κ.1 0 8 = 0 ∨ κ.1 0 8 = 1) (bu : (κ.1 0 7 = -1 ∧ κ.1 0 8 = 0) ∨ ∃ e, e < m ∧ κ.1 0 7 = nI e ∧ 0 ≤ (κ.1 0 9).toInt ∧ (κ.1 0 9).toInt ≤ (κ.1 0 3).toInt ∧ ∀ t, t < 4 → 0 ≤ (κ.2 35 t).toInt ∧ (κ.2 6 t).toInt + (κ.2 35 t).toInt ≤ 1000000000) (op : ∀ e, e < 6 → ∃ b, b < 16 ∧ κ.1 27 e = nI b ∧ (e < m → ∀ t, n ≤ t → t < 4 → b.testBit t = true) ∧ (m ≤ e → b = 0)) (lw : k_lw κ) : r_V κ n m := ⟨m0, m1, va, gv, g6, de, lk, fl, dt, pt, mg, ti, sv, bu, op, lw⟩
/-- all together; lg: with the ledger -/
abbrev r_A (lg : Prop) (κ : k_M) (I : Nat → Nat → Int32) (J : Nat → Nat → Int64) (R : Nat → Int64) (n m : Nat) (B : Int64) : Prop := (r_S κ I J n m) ∧ (r_D κ R B) ∧ (r_V κ n m) ∧ (lg → r_L κ R)
theorem r_A.S {lg : Prop} {κ : k_M} {I : Nat → Nat → Int32} {J : Nat → Nat → Int64} {R : Nat → Int64} {n m : Nat} {B : Int64} (h : r_A lg κ I J R n m B) : r_S κ I J n m := h.1
theorem r_A.D {lg : Prop} {κ : k_M} {I : Nat → Nat → Int32} {J : Nat → Nat → Int64} {R : Nat → Int64} {n m : Nat} {B : Int64} (h : r_A lg κ I J R n m B) : r_D κ R B := h.2.1
theorem r_A.V {lg : Prop} {κ : k_M} {I : Nat → Nat → Int32} {J : Nat → Nat → Int64} {R : Nat → Int64} {n m : Nat} {B : Int64} (h : r_A lg κ I J R n m B) : r_V κ n m := h.2.2.1
theorem r_A.L {lg : Prop} {κ : k_M} {I : Nat → Nat → Int32} {J : Nat → Nat → Int64} {R : Nat → Int64} {n m : Nat} {B : Int64} (h : r_A lg κ I J R n m B) : lg → r_L κ R := h.2.2.2
theorem r_A.mk {lg : Prop} {κ : k_M} {I : Nat → Nat → Int32} {J : Nat → Nat → Int64} {R : Nat → Int64} {n m : Nat} {B : Int64} (S : r_S κ I J n m) (D : r_D κ R B) (V : r_V κ n m) (L : lg → r_L κ R) : r_A lg κ I J R n m B := ⟨S, D, V, L⟩
def r_Q (lg : Prop) (I : Nat → Nat → Int32) (J : Nat → Nat → Int64) (n m : Nat) (B : Int64) (x : Int32 × k_M) : m_Q := fun v μ' => v = some (.int x.1) ∧ ∃ R' G', μ' = (I, n_J J R' G') ∧ r_A lg x.2 I J R' n m B
theorem r_S.kk {κ κ' : k_M} {I : Nat → Nat → Int32} {J : Nat → Nat → Int64} {n m : Nat} (h : r_S κ I J n m) (h1 : k_sc κ κ') (h2 : ∀ j, 4 ≤ j → j < 7 → κ'.1 0 j = κ.1 0 j) (h3 : ∀ j, j < 4 → κ'.2 9 j = κ.2 9 j) : r_S κ' I J n m := by
  have n4 := h.n4
  exact r_S.mk (cn := by rw [h1 1 0 (by omega) (by omega)]; exact h.cn) (n4 := h.n4) (mn := h.mn) (cm := by rw [h1 23 0 (by omega) (by omega)]; exact h.cm) (m6 := h.m6) (mm := h.mm) (den := fun t ht => by rw [h1 2 t (by omega) (by omega)]; exact h.den t ht) (res := fun t ht => by rw [h1 3 t (by omega) (by omega)]; exact h.res t ht) (gau := fun t ht => by rw [h3 t (by omega)]; exact h.gau t ht) (lk := fun t ht => by rw [h1 4 t (by omega) (by omega)]; exact h.lk t ht) (pts := fun t ht => by rw [h1 (11 + 3 * t) 0 (by omega) (by omega)]; exact h.pts t ht) (lvs := fun t ht i hi => by rw [h1 (12 + 3 * t) i (by omega) (by omega)]; exact h.lvs t ht i hi) (vos := fun t ht i hi => by rw [h1 (13 + 3 * t) i (by omega) (by omega)]; exact h.vos t ht i hi) (flo := fun e he => by rw [h1 25 e (by omega) (by omega)]; exact h.flo e he) (dou := fun e he => by rw [h1 26 e (by omega) (by omega)]; exact h.dou e he) (s0 := by rw [h2 4 (by omega) (by omega)]; exact h.s0) (s1 := by rw [h2 5 (by omega) (by omega)]; exact h.s1) (s2 := by rw [h2 6 (by omega) (by omega)]; exact h.s2) (nam := fun e he => by rw [h1 24 e (by omega) (by omega)]; exact h.nam e he)
theorem r_S.ij {κ : k_M} {I I' : Nat → Nat → Int32} {J J' : Nat → Nat → Int64} {n m : Nat} (h : r_S κ I J n m) (h1 : ∀ c, 83 ≤ c → c < 92 → I' c = I c) (h2 : I' 77 2 = I 77 2) (h3 : I' 77 10 = I 77 10) (h4 : ∀ c, 80 ≤ c → c < 83 → J' c = J c) : r_S κ I' J' n m := r_S.mk (cn := h.cn) (n4 := h.n4) (mn := by rw [h2]; exact h.mn) (cm := h.cm) (m6 := h.m6) (mm := by rw [h3]; exact h.mm) (den := fun t ht => by rw [h4 80 (by omega) (by omega)]; exact h.den t ht) (res := fun t ht => by rw [h4 81 (by omega) (by omega)]; exact h.res t ht) (gau := fun t ht => by rw [h4 82 (by omega) (by omega)]; exact h.gau t ht) (lk := fun t ht => by rw [h1 83 (by omega) (by omega)]; exact h.lk t ht) (pts := fun t ht => by rw [h1 84 (by omega) (by omega)]; exact h.pts t ht) (lvs := fun t ht i hi => by rw [h1 85 (by omega) (by omega)]; exact h.lvs t ht i hi) (vos := fun t ht i hi => by rw [h1 86 (by omega) (by omega)]; exact h.vos t ht i hi) (flo := fun e he => by rw [h1 89 (by omega) (by omega)]; exact h.flo e he) (dou := fun e he => by rw [h1 90 (by omega) (by omega)]; exact h.dou e he) (s0 := by rw [h1 91 (by omega) (by omega)]; exact h.s0) (s1 := by rw [h1 91 (by omega) (by omega)]; exact h.s1) (s2 := by rw [h1 91 (by omega) (by omega)]; exact h.s2) (nam := fun e he => by rw [h1 88 (by omega) (by omega), h1 87 (by omega) (by omega)]; exact h.nam e he)
/-- a craft that is another one's copy -/
theorem r_V.lws {κ : k_M} {n m : Nat} (h : r_V κ n m) : κ.1 30 1 = nI (kl κ) ∧ kl κ < 24 ∧ κ.1 30 0 = nI (kc κ) ∧ kc κ ≤ 24 := ⟨(k_lw_l h.lw).1, (k_lw_l h.lw).2, (k_lw_c h.lw).1, (k_lw_c h.lw).2⟩
theorem r_L.cg {κ κ' : k_M} {R R' : Nat → Int64} (h : r_L κ R) (h1 : ∀ c j, 30 ≤ c → c < 34 → κ'.1 c j = κ.1 c j) (h2 : ∀ j, κ'.2 34 j = κ.2 34 j) (h3 : ∀ k, 42 ≤ k → k ≤ 138 → R' k = R k) (h4 : kc κ ≤ 24) : r_L κ' R' := by
  have e1 : kc κ' = kc κ := by show (κ'.1 30 0).toNatClampNeg = _; rw [h1 30 0 (by omega) (by omega)]
  have e2 : kl κ' = kl κ := by show (κ'.1 30 1).toNatClampNeg = _; rw [h1 30 1 (by omega) (by omega)]
  refine ⟨?_, fun i hi => ?_⟩
  · rw [h3 42 (by omega) (by omega), h1 30 0 (by omega) (by omega)]; exact h.ct
  · rw [e1] at hi
    rw [e2, h3 _ (by omega) (by omega), h3 _ (by omega) (by omega), h3 _ (by omega) (by omega), h3 _ (by omega) (by omega), h1 31 _ (by omega) (by omega), h1 32 _ (by omega) (by omega), h1 33 _ (by omega) (by omega), h2]
    exact h.en i hi
theorem n_ent_n {R : Nat → Int64} {kd t : Int32} {a : Int64} : n_ent R kd t a 42 = (if R 42 < 24 then R 42 + 1 else 24) ∧ n_ent R kd t a 43 = R 38 ∧ n_ent R kd t a 44 = kd.toInt64 ∧ n_ent R kd t a 45 = t.toInt64 ∧ n_ent R kd t a 46 = a := by
  unfold n_ent
  refine ⟨if_pos rfl, ?_, ?_, ?_, ?_⟩
  · rw [if_neg (by omega), if_pos rfl]
  · rw [if_neg (by omega), if_neg (by omega), if_pos rfl]
  · rw [if_neg (by omega), if_neg (by omega), if_neg (by omega), if_pos rfl]
  · rw [if_neg (by omega), if_neg (by omega), if_neg (by omega), if_neg (by omega), if_pos rfl]
theorem n_ent_s {R : Nat → Int64} {kd t : Int32} {a : Int64} {k : Nat} (h : 47 ≤ k) (h2 : k ≤ 138) : n_ent R kd t a k = R (k - 4) := by
  unfold n_ent n_sh4
  rw [if_neg (by omega), if_neg (by omega), if_neg (by omega), if_neg (by omega), if_neg (by omega), if_pos (by omega)]
theorem r_min {c : Nat} (hc : c ≤ 24) : (if (nI c).toInt64 < 24 then (nI c).toInt64 + 1 else (24 : Int64)) = (nI (min 24 (c + 1))).toInt64 := by
  have : ∀ c, c < 25 → (if (nI c).toInt64 < 24 then (nI c).toInt64 + 1 else (24 : Int64)) = (nI (min 24 (c + 1))).toInt64 := by decide +kernel
  exact this c (by omega)
theorem r_L.app {κ κ0 : k_M} {R : Nat → Int64} {w kd t : Int32} {a : Int64} (h : r_L κ R) (hw : k_lw κ) (ht : R 38 = w.toInt64) (h1 : ∀ c j, 30 ≤ c → c < 34 → κ0.1 c j = κ.1 c j) (h2 : ∀ j, κ0.2 34 j = κ.2 34 j) : r_L (k_app κ0 (kl κ) (kc κ) w kd t a) (n_ent R kd t a) := by
  have hl := (k_lw_l hw).2
  have hc := (k_lw_c hw).2
  have hc1 := (k_lw_c hw).1
  have e1 : kc (k_app κ0 (kl κ) (kc κ) w kd t a) = min 24 (kc κ + 1) := by
    show (nI (min 24 (kc κ + 1))).toNatClampNeg = _
    exact nI_clamp (by omega)
  have e2 : kl (k_app κ0 (kl κ) (kc κ) w kd t a) = (kl κ + 1) % 24 := by
    show (nI ((kl κ + 1) % 24)).toNatClampNeg = _
    exact nI_clamp (by omega)
  generalize hq : (kl κ + 1) % 24 = q
  have c31 : ∀ j, (k_app κ0 (kl κ) (kc κ) w kd t a).1 31 j = if j = q then w else κ.1 31 j := fun j => by
    subst hq
    show (if j = _ then w else κ0.1 31 j) = _
    rw [h1 31 j (by omega) (by omega)]
  have c32 : ∀ j, (k_app κ0 (kl κ) (kc κ) w kd t a).1 32 j = if j = q then kd else κ.1 32 j := fun j => by
    subst hq
    show (if j = _ then kd else κ0.1 32 j) = _
    rw [h1 32 j (by omega) (by omega)]
  have c33 : ∀ j, (k_app κ0 (kl κ) (kc κ) w kd t a).1 33 j = if j = q then t else κ.1 33 j := fun j => by
    subst hq
    show (if j = _ then t else κ0.1 33 j) = _
    rw [h1 33 j (by omega) (by omega)]
  have c34 : ∀ j, (k_app κ0 (kl κ) (kc κ) w kd t a).2 34 j = if j = q then a else κ.2 34 j := fun j => by
    subst hq
    show (if j = _ then a else κ0.2 34 j) = _
    rw [h2 j]
  refine ⟨?_, fun i hi => ?_⟩
  · rw [n_ent_n.1, h.ct, hc1]
    exact r_min hc
  · rw [e1] at hi
    rw [e2, hq]
    by_cases hi0 : i = 0
    · subst hi0
      have : (q + 24 - 0) % 24 = q := by omega
      rw [this, c31, c32, c33, c34, if_pos rfl, if_pos rfl, if_pos rfl, if_pos rfl]
      exact ⟨n_ent_n.2.1.trans ht, n_ent_n.2.2.1, n_ent_n.2.2.2.1, n_ent_n.2.2.2.2⟩
    · obtain ⟨j, rfl⟩ : ∃ j, i = j + 1 := ⟨i - 1, by omega⟩
      have e3 : (q + 24 - (j + 1)) % 24 = (kl κ + 24 - j) % 24 := by omega
      have e4 : ¬ (kl κ + 24 - j) % 24 = q := by omega
      rw [e3, c31, c32, c33, c34, if_neg e4, if_neg e4, if_neg e4, if_neg e4]
      have g := h.en j (by omega)
      rw [n_ent_s (by omega) (by omega), n_ent_s (by omega) (by omega), n_ent_s (by omega) (by omega), n_ent_s (by omega) (by omega)]
      rw [show 43 + 4 * (j + 1) + 0 - 4 = 43 + 4 * j + 0 by omega, show 43 + 4 * (j + 1) + 1 - 4 = 43 + 4 * j + 1 by omega, show 43 + 4 * (j + 1) + 2 - 4 = 43 + 4 * j + 2 by omega, show 43 + 4 * (j + 1) + 3 - 4 = 43 + 4 * j + 3 by omega]
      exact g
/-- whether it burns -/
theorem r_isB {κ : k_M} {n m : Nat} (hm : κ.1 23 0 = nI m) (h6 : m ≤ 6) (V : r_V κ n m) : k_isB κ ↔ 0 ≤ κ.1 0 7 := by
  refine ⟨fun h => h.1, fun h => ⟨h, ?_⟩⟩
  rcases V.bu with q | ⟨e, he, q, -⟩
  · rw [q.1] at h; exact absurd h (by decide)
  · rw [q, hm]; exact nI_lt he (by omega)
theorem r_nb {κ : k_M} {n m : Nat} (V : r_V κ n m) (h : ¬ k_isB κ) (hm : κ.1 23 0 = nI m) (h6 : m ≤ 6) : κ.1 0 7 = -1 ∧ κ.1 0 8 = 0 := by
  rcases V.bu with q | ⟨e, he, q, -⟩
  · exact q
  · exact absurd ⟨by rw [q]; exact nI_pos' (by omega), by rw [q, hm]; exact nI_lt he (by omega)⟩ h
theorem r_yb {κ : k_M} {n m : Nat} (V : r_V κ n m) (h : k_isB κ) : ∃ e, e < m ∧ κ.1 0 7 = nI e ∧ 0 ≤ (κ.1 0 9).toInt ∧ (κ.1 0 9).toInt ≤ (κ.1 0 3).toInt ∧ ∀ t, t < 4 → 0 ≤ (κ.2 35 t).toInt ∧ (κ.2 6 t).toInt + (κ.2 35 t).toInt ≤ 1000000000 := by
  rcases V.bu with q | q
  · have := h.1; rw [q.1] at this; exact absurd this (by decide)
  · exact q
/-- bits of the open tanks, by trying all -/
def b_all (n : Nat) : Int32 := (1 : Int32) <<< (nI n &&& 31) - 1
theorem bb_or : ∀ n, n < 5 → ∀ b, b < 16 → ∀ t, t < 4 → t < n → n_vv 1 (nI b &&& b_all n).toInt64 (nI t) = ((nI b ||| (1 : Int32) <<< (nI t &&& 31)) &&& b_all n).toInt64 := by decide +kernel
theorem b_or1 : ∀ b, b < 16 → ∀ t, t < 4 → (b ||| 1 <<< t) < 16 ∧ nI b ||| (1 : Int32) <<< (nI t &&& 31) = nI (b ||| 1 <<< t) := by decide +kernel
theorem b_or2 : ∀ b, b < 16 → ∀ t, t < 4 → ∀ u, u < 4 → t < u → (b ||| 1 <<< t).testBit u = b.testBit u := by decide +kernel
theorem b_an : ∀ n, n < 5 → ∀ b, b < 16 → ∀ t, t < 4 → t < n → n_vv 0 (nI b &&& b_all n).toInt64 (nI t) = ((nI b &&& ((1 : Int32) <<< (nI t &&& 31) ^^^ (-1 : Int32))) &&& b_all n).toInt64 := by decide +kernel
theorem b_an1 : ∀ b, b < 16 → ∀ t, t < 4 → (b &&& (15 ^^^ 1 <<< t)) < 16 ∧ nI b &&& ((1 : Int32) <<< (nI t &&& 31) ^^^ (-1 : Int32)) = nI (b &&& (15 ^^^ 1 <<< t)) := by decide +kernel
theorem b_an2 : ∀ b, b < 16 → ∀ t, t < 4 → ∀ u, u < 4 → t < u → (b &&& (15 ^^^ 1 <<< t)).testBit u = b.testBit u := by decide +kernel
theorem b_op : ∀ n, n < 5 → ∀ b, b < 16 → ∀ t, t < 4 → t < n → ((((nI b &&& b_all n).toInt64 >>> ((nI t : Int32).toInt64 &&& 63)) &&& (1 : Int64)) = 1 ↔ ((nI b >>> (nI t &&& 31)) &&& (1 : Int32)) = 1) := by decide +kernel
theorem b_ad : ∀ n, n < 4 → ∀ b, b < 16 → b.testBit n = true → (nI b &&& b_all n).toInt64 ||| (1 : Int64) <<< ((nI n : Int32).toInt64 &&& 63) = (nI b &&& b_all (n + 1)).toInt64 := by decide +kernel
theorem b_15 : ∀ n, n < 5 → (1 : Int64) <<< ((nI n : Int32).toInt64 &&& 63) - 1 = (15 &&& b_all n).toInt64 := by decide +kernel
theorem r_opn {κ : k_M} {n e : Nat} (hn : κ.1 1 0 = nI n) : k_open κ e = κ.1 27 e &&& b_all n := by
  unfold k_open k_all b_all; rw [hn]
