/-! what public calls answer: (answer, finding, the present picture then); shared by class and reference -/
def ix (x : Int32) : Nat := x.toNatClampNeg
abbrev SP : Type := Int32 × Option Nat × (Nat → Int32)
def fnd (g : Nat → Int32) (j : Nat) : Nat → Int32 := upd g j (g j + 1)
def fnO (o : xO) : Option Nat → xO
  | none => o
  | some j => (o.1, upd o.2.1 j (o.2.1 j + 1), o.2.2.1, o.2.2.2.1, o.2.2.2.2.1, o.2.2.2.2.2.1, o.2.2.2.2.2.2.1, o.2.2.2.2.2.2.2.1, o.2.2.2.2.2.2.2.2.1, o.2.2.2.2.2.2.2.2.2.1, o.2.2.2.2.2.2.2.2.2.2)
def fnQ (q : xQ) : Option Nat → xQ
  | none => q
  | some j => (q.1, q.2.1, upd q.2.2.1 j (q.2.2.1 j + 1), q.2.2.2.1, q.2.2.2.2.1, q.2.2.2.2.2.1, q.2.2.2.2.2.2.1, q.2.2.2.2.2.2.2.1, q.2.2.2.2.2.2.2.2.1, q.2.2.2.2.2.2.2.2.2.1, q.2.2.2.2.2.2.2.2.2.2.1, q.2.2.2.2.2.2.2.2.2.2.2.1, q.2.2.2.2.2.2.2.2.2.2.2.2.1, q.2.2.2.2.2.2.2.2.2.2.2.2.2.1, q.2.2.2.2.2.2.2.2.2.2.2.2.2.2)
def eq65 (f g : Nat → Int32) : Prop := ∀ k, k < 65 → f k = g k
theorem eq65.rf {f : Nat → Int32} : eq65 f f := fun _ _ => rfl
/-- the class behind a call: the trial lake is anything -/
def CQ (f2 : Nat → Int32) (o : xO) (mf wf : Nat → Int32) (q : xQ) (sp : SP) : List Value → List va_E → Prop := fun v h' => v = [.int sp.1] ∧ ∃ f1, h' = hp (tri sp.2.2 f1 f2) (fnO o sp.2.1) mf wf q
theorem cqR {f1 f2 : Nat → Int32} {o : xO} {mf wf : Nat → Int32} {q : xQ} {sp : SP} {x : Int32} {j : Option Nat} {g : Nat → Int32} (e : sp = (x, j, g)) : CQ f2 o mf wf q sp [.int x] (hp (tri g f1 f2) (fnO o j) mf wf q) := by subst e; exact ⟨rfl, _, rfl⟩
/-- the reference behind a call: its picture is the named one in its 65 places -/
def RQ (lk : Nat → Nat → Int32) (o : xO) (q : xQ) (sp : SP) : List Value → List va_E → Prop := fun v h' => v = [.int sp.1] ∧ ∃ mf wf, eq65 sp.2.2 mf ∧ h' = hp lk o mf wf (fnQ q sp.2.1)
theorem rqR {lk : Nat → Nat → Int32} {o : xO} {mf wf : Nat → Int32} {q : xQ} {sp : SP} {x : Int32} {j : Option Nat} {g : Nat → Int32} (e : sp = (x, j, g)) (h : eq65 g mf) : RQ lk o q sp [.int x] (hp lk o mf wf (fnQ q j)) := by subst e; exact ⟨rfl, _, _, h, rfl⟩
theorem idxT {f : Nat → Int32} {t : Int32} (ok : okN f) (h : 0 ≤ t ∧ t < f 3) : ∃ j, j < nT f ∧ t = nI j := by
  obtain ⟨j, hj, e⟩ := nI_of (Int32.not_lt.mpr h.1)
  subst e
  have h2 := h.2
  rw [ok.1, nI_ltI hj (by have := ok.2.1; omega)] at h2
  exact ⟨j, h2, rfl⟩
theorem idxB {f : Nat → Int32} {t : Int32} (ok : okN f) (h : 0 ≤ t ∧ t < f 4) : ∃ j, j < nB f ∧ t = nI j := by
  obtain ⟨j, hj, e⟩ := nI_of (Int32.not_lt.mpr h.1)
  subst e
  have h2 := h.2
  rw [ok.2.2.1, nI_ltI hj (by have := ok.2.2.2; omega)] at h2
  exact ⟨j, h2, rfl⟩
theorem isT_iff {f : Nat → Int32} {t : Int32} (ok : okN f) : (0 ≤ t ∧ t ≤ f 3 - 1) ↔ (0 ≤ t ∧ t < f 3) := by
  have h8 := ok.2.1
  rw [ok.1]
  refine and_congr_right (fun h0 => ?_)
  rw [Int32.le_iff_toInt_le, Int32.lt_iff_toInt_lt, show (1 : Int32) = nI 1 from rfl, pk_sub_toInt (by omega) (by omega), nI_toInt (by omega)]
  omega
theorem isB_iff {f : Nat → Int32} {t : Int32} (ok : okN f) : (0 ≤ t ∧ t ≤ f 4 - 1) ↔ (0 ≤ t ∧ t < f 4) := by
  have h8 := ok.2.2.2
  rw [ok.2.2.1]
  refine and_congr_right (fun h0 => ?_)
  rw [Int32.le_iff_toInt_le, Int32.lt_iff_toInt_lt, show (1 : Int32) = nI 1 from rfl, pk_sub_toInt (by omega) (by omega), nI_toInt (by omega)]
  omega
theorem rngN {a : Int32} {x : Int32} {n : Nat} (h : 0 ≤ x ∧ x ≤ a) (ha : a.toInt = n) : ∃ j, j ≤ n ∧ x = nI j := by
  obtain ⟨j, hj, e⟩ := nI_of2 (M := a) (n := n) ha (Int32.not_lt.mpr h.1) h.2
  exact ⟨j, hj, e⟩
def rng6 (x : Int32) : Prop := x = nI (ix x) ∧ ix x ≤ 6
/-- SHINE of all rows -/
def shW (f : Nat → Int32) (t r : Nat) : Int32 := shn (f (5 + 5 * t)) (f (5 + 5 * t + 3)) (nI r)
def sp_wind (f : Nat → Int32) (w v : Int32) : SP := if w = 0 ∧ 0 ≤ v ∧ v ≤ 255 then (f 1, none, upd f 1 v) else if w = 1 ∧ 0 ≤ v ∧ v ≤ 1 then (f 2, none, upd f 2 v) else (-1000000001, some 0, f)
def sp_cell (f : Nat → Int32) (gl mi bo tx c w : Int32) : SP := if 0 ≤ c ∧ c ≤ 47 then (if w = 0 then (gl, none, f) else if w = 1 then (mi, none, f) else if w = 2 then (bo, none, f) else if w = 3 then (tx, none, f) else (-1000000001, some 0, f)) else (-1000000001, some 0, f)
def sp_thing (f : Nat → Int32) (k c h : Int32) : SP := if (0 ≤ k ∧ k ≤ 5) ∧ (0 ≤ c ∧ c ≤ 7) ∧ (1 ≤ h ∧ h ≤ 6) then (if 8 ≤ f 3 then (-1000000002, some 1, f) else (f 3, none, aT f k c h 40 1)) else (-1000000001, some 0, f)
def sp_of (f : Nat → Int32) (re sh t w : Int32) : SP := if 0 ≤ t ∧ t < f 3 then (if 0 ≤ w ∧ w ≤ 4 then (f (5 + 5 * ix t + ix w), none, f) else if w = 5 then (re, none, f) else if w = 6 then (txd (f (5 + 5 * ix t)) (f (5 + 5 * ix t + 4)), none, f) else if w = 7 then (sh, none, f) else (-1000000001, some 0, f)) else (-1000000001, some 0, f)
abbrev may (w v : Int32) : Prop := (w = 1 ∧ 0 ≤ v ∧ v ≤ 7) ∨ (w = 2 ∧ 1 ≤ v ∧ v ≤ 6) ∨ (w = 3 ∧ 0 ≤ v ∧ v ≤ 99) ∨ (w = 4 ∧ 0 ≤ v ∧ v ≤ 9)
def sp_set (f : Nat → Int32) (t w v : Int32) : SP := if (0 ≤ t ∧ t < f 3) ∧ may w v then (f (5 + 5 * ix t + ix w), none, upd f (5 + 5 * ix t + ix w) v) else (-1000000001, some 0, f)
def sp_turn (f : Nat → Int32) (t k : Int32) : SP := if (0 ≤ t ∧ t < f 3) ∧ (0 ≤ k ∧ k ≤ 5) then (f (5 + 5 * ix t), none, upd f (5 + 5 * ix t) k) else (-1000000001, some 0, f)
def sp_as (f : Nat → Int32) (t k : Int32) : SP := if (0 ≤ t ∧ t < f 3) ∧ (0 ≤ k ∧ k ≤ 5) then (if kof (f (5 + 5 * ix t)) k then (f (5 + 5 * ix t + 3), none, f) else (-1000000003, some 2, f)) else (-1000000001, some 0, f)
def sp_boat (f : Nat → Int32) (c : Int32) : SP := if 0 ≤ c ∧ c ≤ 47 then (if 5 ≤ f 4 then (-1000000002, some 1, f) else (f 4, none, aB f c 10)) else (-1000000001, some 0, f)
def sp_told (f : Nat → Int32) (tk b w : Int32) : SP := if 0 ≤ b ∧ b < f 4 then (if 0 ≤ w ∧ w ≤ 3 then (f (45 + 4 * ix b + ix w), none, f) else if w = 4 then (tk, none, f) else (-1000000001, some 0, f)) else (-1000000001, some 0, f)
def sp_fit (f : Nat → Int32) (b w v : Int32) : SP := if (0 ≤ b ∧ b < f 4) ∧ ((w = 0 ∧ 0 ≤ v ∧ v ≤ 47) ∨ (w = 1 ∧ 0 ≤ v ∧ v ≤ 99)) then (f (45 + 4 * ix b + ix w), none, upd f (45 + 4 * ix b + ix w) v) else (-1000000001, some 0, f)
def sp_hours (f g : Nat → Int32) (n : Int32) : SP := if 1 ≤ n ∧ n ≤ 60 then (if 9999 < f 0 + n then (-1000000005, some 4, f) else (sumI (sB g 3) (nB g), none, g)) else (-1000000001, some 0, f)
def sp_now (f : Nat → Int32) (gs w : Int32) : SP := if w = 0 then (f 0, none, f) else if w = 1 then (md (f 0) 24, none, f) else if w = 2 then (f 1, none, f) else if w = 3 then (f 2, none, f) else if w = 4 then (sumI (lA f) (nT f), none, f) else if w = 5 then (gs, none, f) else if w = 6 then (orI (dA f) (nT f), none, f) else (-1000000001, some 0, f)
theorem aT_3 {f : Nat → Int32} {a b c e g : Int32} : aT f a b c e g 3 = f 3 + 1 := pk_us
theorem aB_4 {f : Nat → Int32} {a b : Int32} : aB f a b 4 = f 4 + 1 := pk_us
theorem add1_sub1 {x : Int32} : x + 1 - 1 = x := by
  rw [← Int32.toBitVec_inj]
  simp [Int32.toBitVec_sub, Int32.toBitVec_add]
theorem lt_of8 {f : Nat → Int32} (ok : okN f) (h : f 3 < 8) : nT f < 8 := by
  have h8 := ok.2.1
  rw [ok.1] at h
  exact (nI_ltI (b := 8) (by omega) (by omega)).mp h
theorem lt_of5 {f : Nat → Int32} (ok : okN f) (h : f 4 < 5) : nB f < 5 := by
  have h8 := ok.2.2.2
  rw [ok.2.2.1] at h
  exact (nI_ltI (b := 5) (by omega) (by omega)).mp h
theorem rng1 {a : Int32} {x : Int32} {n : Nat} (h : 1 ≤ x ∧ x ≤ a) (ha : a.toInt = n) : ∃ j, (1 ≤ j ∧ j ≤ n) ∧ x = nI j := by
  have h0 : 0 ≤ x := by
    have := h.1
    rw [Int32.le_iff_toInt_le] at this ⊢
    have e1 : (1 : Int32).toInt = 1 := by decide
    have e0 : (0 : Int32).toInt = 0 := by decide
    omega
  obtain ⟨j, hj, e⟩ := rngN (n := n) ⟨h0, h.2⟩ ha
  subst e
  refine ⟨j, ⟨?_, hj⟩, rfl⟩
  have h1 := h.1
  cases j with
  | zero => exact absurd h1 (by decide)
  | succ j => omega
theorem ix_0 : ix 0 = 0 := by decide
theorem ix_1 : ix 1 = 1 := by decide
theorem ix_2 : ix 2 = 2 := by decide
theorem ix_3 : ix 3 = 3 := by decide
theorem ix_4 : ix 4 = 4 := by decide
theorem upd_comm {f : Nat → Int32} {i j : Nat} {x y : Int32} (h : i ≠ j) : upd (upd f i x) j y = upd (upd f j y) i x := by
  funext k
  by_cases h1 : k = j
  · subst h1; rw [pk_us, pk_un (Ne.symm h), pk_us]
  · rw [pk_un h1]
    by_cases h2 : k = i
    · subst h2; rw [pk_us, pk_us]
    · rw [pk_un h2, pk_un h2, pk_un h1]
theorem aT_alt {f : Nat → Int32} {a b c e g : Int32} (ok : okN f) : aT f a b c e g = upd (upd (upd (upd (upd (upd f 3 (nI (nT f) + 1)) (5 + 5 * nT f) a) (5 + 5 * nT f + 1) b) (5 + 5 * nT f + 2) c) (5 + 5 * nT f + 3) e) (5 + 5 * nT f + 4) g := by
  unfold aT uT
  rw [← ok.1]
  rw [upd_comm (i := 3) (j := 5 + 5 * nT f) (by omega), upd_comm (i := 3) (j := 5 + 5 * nT f + 1) (by omega), upd_comm (i := 3) (j := 5 + 5 * nT f + 2) (by omega), upd_comm (i := 3) (j := 5 + 5 * nT f + 3) (by omega), upd_comm (i := 3) (j := 5 + 5 * nT f + 4) (by omega)]
  rfl
theorem aB_alt {f : Nat → Int32} {a b : Int32} (ok : okN f) : aB f a b = upd (upd (upd (upd (upd f 4 (nI (nB f) + 1)) (45 + 4 * nB f + 0) a) (45 + 4 * nB f + 1) b) (45 + 4 * nB f + 2) 0) (45 + 4 * nB f + 3) 0 := by
  unfold aB uB
  rw [← ok.2.2.1]
  rw [upd_comm (i := 4) (j := 45 + 4 * nB f + 0) (by omega), upd_comm (i := 4) (j := 45 + 4 * nB f + 1) (by omega), upd_comm (i := 4) (j := 45 + 4 * nB f + 2) (by omega), upd_comm (i := 4) (j := 45 + 4 * nB f + 3) (by omega)]
theorem w01 {w : Int32} (h : 0 ≤ w ∧ w ≤ 1) : w = 0 ∨ w = 1 := by
  obtain ⟨j, hj, rfl⟩ := rngN (n := 1) h (by decide)
  have : j = 0 ∨ j = 1 := by omega
  rcases this with rfl | rfl <;> decide
theorem may4 {w v : Int32} (h : may w v) : w = 1 ∨ w = 2 ∨ w = 3 ∨ w = 4 := h.elim (fun h => Or.inl h.1) (fun h => Or.inr (h.elim (fun h => Or.inl h.1) (fun h => Or.inr (h.elim (fun h => Or.inl h.1) (fun h => Or.inr h.1)))))
theorem ne_of8 {f : Nat → Int32} (ok : okN f) (h : ¬ f 3 = 8) : nT f < 8 := by
  have h8 := ok.2.1
  rw [ok.1] at h
  rcases Nat.lt_or_ge (nT f) 8 with q | q
  · exact q
  · exact absurd (by rw [show nT f = 8 by omega]; rfl) h
theorem ne_of5 {f : Nat → Int32} (ok : okN f) (h : ¬ f 4 = 5) : nB f < 5 := by
  have h8 := ok.2.2.2
  rw [ok.2.2.1] at h
  rcases Nat.lt_or_ge (nB f) 5 with q | q
  · exact q
  · exact absurd (by rw [show nB f = 5 by omega]; rfl) h
theorem lt8_of {f : Nat → Int32} (ok : okN f) (h : nT f < 8) : ¬ 8 ≤ f 3 := by rw [ok.1]; exact nI_ge (b := 8) h (by omega)
theorem lt5_of {f : Nat → Int32} (ok : okN f) (h : nB f < 5) : ¬ 5 ≤ f 4 := by rw [ok.2.2.1]; exact nI_ge (b := 5) h (by omega)
theorem w03 {w : Int32} (h : 0 ≤ w ∧ w ≤ 4) (h4 : ¬ 4 ≤ w) : w = 0 ∨ w = 1 ∨ w = 2 ∨ w = 3 := by
  obtain ⟨j, hj, rfl⟩ := rngN (n := 4) h (by decide)
  have : j = 0 ∨ j = 1 ∨ j = 2 ∨ j = 3 ∨ j = 4 := by omega
  rcases this with rfl | rfl | rfl | rfl | rfl
  · exact Or.inl rfl
  · exact Or.inr (Or.inl rfl)
  · exact Or.inr (Or.inr (Or.inl rfl))
  · exact Or.inr (Or.inr (Or.inr rfl))
  · exact absurd (by decide) h4
theorem w4 {w : Int32} (h : 0 ≤ w ∧ w ≤ 4) (h4 : 4 ≤ w) : w = 4 := by
  rw [← Int32.toInt_inj]
  have h1 := h.2
  rw [Int32.le_iff_toInt_le] at h1 h4
  omega
def gAR (f : Nat → Int32) (c : Nat) : Int32 := glR f (nI c)
theorem w04 {w : Int32} (h : 0 ≤ w ∧ w ≤ 7) (h5 : ¬ 5 ≤ w) : w = 0 ∨ w = 1 ∨ w = 2 ∨ w = 3 ∨ w = 4 := by
  obtain ⟨j, hj, rfl⟩ := rngN (n := 7) h (by decide)
  have hj5 : j < 5 := by
    rcases Nat.lt_or_ge j 5 with q | q
    · exact q
    · exact absurd (nI_le (a := 5) q (by omega)) h5
  have : j = 0 ∨ j = 1 ∨ j = 2 ∨ j = 3 ∨ j = 4 := by omega
  rcases this with rfl | rfl | rfl | rfl | rfl
  · exact Or.inl rfl
  · exact Or.inr (Or.inl rfl)
  · exact Or.inr (Or.inr (Or.inl rfl))
  · exact Or.inr (Or.inr (Or.inr (Or.inl rfl)))
  · exact Or.inr (Or.inr (Or.inr (Or.inr rfl)))
theorem w6 {w : Int32} (h : 0 ≤ w ∧ w ≤ 7) (h7 : ¬ 7 ≤ w) (h5 : 5 ≤ w) (n5 : ¬ w = 5) : w = 6 := by
  rw [← Int32.toInt_inj] at n5 ⊢
  rw [Int32.le_iff_toInt_le] at h7 h5
  have e5 : (5 : Int32).toInt = 5 := by decide
  have e6 : (6 : Int32).toInt = 6 := by decide
  have e7 : (7 : Int32).toInt = 7 := by decide
  omega
theorem w7 {w : Int32} (h : 0 ≤ w ∧ w ≤ 7) (h7 : 7 ≤ w) : w = 7 := by
  rw [← Int32.toInt_inj]
  have h1 := h.2
  rw [Int32.le_iff_toInt_le] at h1 h7
  omega
