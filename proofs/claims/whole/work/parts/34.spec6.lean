/-! feed, wipe, images, counts: answers, and what lies there then -/
def CP (mf wf : Nat → Int32) (q : xQ) (sp : Value × xO × (Nat → Int32) × (Nat → Int32)) : List Value → List va_E → Prop := fun v h' => v = [sp.1] ∧ ∃ f1, h' = hp (tri sp.2.2.1 f1 sp.2.2.2) sp.2.1 mf wf q
theorem cpR {f1 g0 g2 mf wf : Nat → Int32} {o' : xO} {q : xQ} {sp : Value × xO × (Nat → Int32) × (Nat → Int32)} {x : Value} (e : sp = (x, o', g0, g2)) : CP mf wf q sp [x] (hp (tri g0 f1 g2) o' mf wf q) := by subst e; exact ⟨rfl, _, rfl⟩
def RP (lk : Nat → Nat → Int32) (o : xO) (sp : Value × xQ × (Nat → Int32)) : List Value → List va_E → Prop := fun v h' => v = [sp.1] ∧ ∃ mf wf, eq65 sp.2.2 mf ∧ h' = hp lk o mf wf sp.2.1
theorem rpR {lk : Nat → Nat → Int32} {o : xO} {mf wf g : Nat → Int32} {q' : xQ} {sp : Value × xQ × (Nat → Int32)} {x : Value} (e : sp = (x, q', g)) (h : eq65 g mf) : RP lk o sp [x] (hp lk o mf wf q') := by subst e; exact ⟨rfl, _, _, h, rfl⟩
def oT (o : xO) (l : Int32) (b : Nat → Int32) : xO := (o.1, o.2.1, l, b, o.2.2.2.2)
def qT (q : xQ) (l : Int32) (b : Nat → Int32) : xQ := (q.1, q.2.1, q.2.2.1, q.2.2.2.1, q.2.2.2.2.1, b, l, q.2.2.2.2.2.2.2)
def fd (b : Int32 → Int32) : Nat → (Nat → Int32) → Nat → (Nat → Int32)
  | 0, tb, _ => tb
  | n + 1, tb, L => fd b n (upd tb L (b (nI n))) (L + 1)
def byC (x i : Int32) : Int32 := (x.toUInt32 >>> (Int32.toUInt32 (8 * i) &&& Int32.toUInt32 31)).toInt32 &&& 255
def byR (x i : Int32) : Int32 := (x >>> ((8 * i) &&& 31)) &&& 255
def c_feed (o : xO) (f0 f2 : Nat → Int32) (x n : Int32) : Value × xO × (Nat → Int32) × (Nat → Int32) := if 1 ≤ n ∧ n ≤ 4 then (if o.2.2.1 + n ≤ 120 then (.int (o.2.2.1 + n), oT o (o.2.2.1 + n) (fd (byC x) (ix n) o.2.2.2.1 (ix o.2.2.1)), f0, f2) else (.int (-1000000002), fnO o (some 1), f0, f2)) else (.int (-1000000001), fnO o (some 0), f0, f2)
def r_feed (q : xQ) (f : Nat → Int32) (x n : Int32) : Value × xQ × (Nat → Int32) := if 1 ≤ n ∧ n ≤ 4 then (if q.2.2.2.2.2.2.1 + n ≤ 120 then (.int (q.2.2.2.2.2.2.1 + n), qT q (q.2.2.2.2.2.2.1 + n) (fd (byR x) (ix n) q.2.2.2.2.2.1 (ix q.2.2.2.2.2.2.1)), f) else (.int (-1000000002), fnQ q (some 1), f)) else (.int (-1000000001), fnQ q (some 0), f)
theorem n14 {n : Int32} (h : 1 ≤ n ∧ n ≤ 4) : n = 1 ∨ n = 2 ∨ n = 3 ∨ n = 4 := by
  obtain ⟨j, hj, rfl⟩ := rng1 (n := 4) h (by decide)
  have : j = 1 ∨ j = 2 ∨ j = 3 ∨ j = 4 := by omega
  rcases this with rfl | rfl | rfl | rfl
  · exact Or.inl rfl
  · exact Or.inr (Or.inl rfl)
  · exact Or.inr (Or.inr (Or.inl rfl))
  · exact Or.inr (Or.inr (Or.inr rfl))
theorem le120 {L n : Nat} (h : nI L + nI n ≤ 120) (hL : L ≤ 120) (hn : n ≤ 4) : L + n ≤ 120 := by
  rw [nI_add] at h
  exact (nI_leI (b := 120) (by omega) (by omega)).mp h
def sum7 (f : Nat → Int32) : Int32 := f 0 + f 1 + f 2 + f 3 + f 4 + f 5 + f 6
def c_image (o : xO) (f0 f2 : Nat → Int32) : Value × xO × (Nat → Int32) × (Nat → Int32) := (.int 1, (1, o.2), f0, bcF f0 f2)
def r_image (q : xQ) (f : Nat → Int32) : Value × xQ × (Nat → Int32) := (.int 1, (cpF 65 f q.1, 1, q.2.2), f)
def c_undo (o : xO) (f0 f2 : Nat → Int32) : Value × xO × (Nat → Int32) × (Nat → Int32) := if o.1 = 0 then (.int (-1000000004), fnO o (some 3), f0, f2) else (.int (f2 3), o, bcF f2 f0, f2)
def r_undo (q : xQ) (f : Nat → Int32) : Value × xQ × (Nat → Int32) := if q.2.1 = 0 then (.int (-1000000004), fnQ q (some 3), f) else (.int (q.1 3), q, q.1)
def c_tear (o : xO) (f0 f2 : Nat → Int32) : Value × xO × (Nat → Int32) × (Nat → Int32) := (.int (if o.1 = 0 then 0 else 1), (0, o.2), f0, f2)
def r_tear (q : xQ) (f : Nat → Int32) : Value × xQ × (Nat → Int32) := (.int (if q.2.1 = 0 then 0 else 1), (q.1, 0, q.2.2), f)
def p_count (f : Nat → Int32) (tl w : Int32) : Option Int32 := if w = 0 then some (f 3) else if w = 1 then some tl else if w = 2 then some (f 4) else if w = 3 then some (sumI (sB f 3) (nB f)) else if w = 4 then some (sumI (sB f 2) (nB f)) else none
def c_count (o : xO) (f0 f2 : Nat → Int32) (w : Int32) : Value × xO × (Nat → Int32) × (Nat → Int32) := match p_count f0 o.2.2.1 w with
  | some x => (.int x, o, f0, f2)
  | none => (.int (-1000000001), fnO o (some 0), f0, f2)
def r_count (q : xQ) (f : Nat → Int32) (w : Int32) : Value × xQ × (Nat → Int32) := match p_count f q.2.2.2.2.2.2.1 w with
  | some x => (.int x, q, f)
  | none => (.int (-1000000001), fnQ q (some 0), f)
def p_stat (f : Nat → Int32) (w : Int32) : Option Int32 := if 0 ≤ w ∧ w ≤ 6 then some (f (ix w)) else if w = -1 then some (sumI f 7) else none
def c_stat (o : xO) (f0 f2 : Nat → Int32) (w : Int32) : Value × xO × (Nat → Int32) × (Nat → Int32) := match p_stat o.2.1 w with
  | some x => (.int x, o, f0, f2)
  | none => (.int (-1000000001), fnO o (some 0), f0, f2)
def r_stat (q : xQ) (f : Nat → Int32) (w : Int32) : Value × xQ × (Nat → Int32) := match p_stat q.2.2.1 w with
  | some x => (.int x, q, f)
  | none => (.int (-1000000001), fnQ q (some 0), f)
theorem lt7_le6 {w : Int32} (h0 : ¬ w < 0) (h : ¬ 7 ≤ w) : 0 ≤ w ∧ w ≤ 6 := by
  rw [Int32.lt_iff_toInt_lt] at h0
  rw [Int32.le_iff_toInt_le] at h
  constructor <;> rw [Int32.le_iff_toInt_le]
  · have : (0 : Int32).toInt = 0 := by decide
    omega
  · have e7 : (7 : Int32).toInt = 7 := by decide
    have e6 : (6 : Int32).toInt = 6 := by decide
    omega
theorem n06 {w : Int32} (h : -1 ≤ w ∧ w ≤ 6) : w = -1 ∨ w = 0 ∨ w = 1 ∨ w = 2 ∨ w = 3 ∨ w = 4 ∨ w = 5 ∨ w = 6 := by
  have h1 := h.1
  have h2 := h.2
  rw [Int32.le_iff_toInt_le] at h1 h2
  have e1 : (-1 : Int32).toInt = -1 := by decide
  have e6 : (6 : Int32).toInt = 6 := by decide
  have hh : w.toInt = -1 ∨ w.toInt = 0 ∨ w.toInt = 1 ∨ w.toInt = 2 ∨ w.toInt = 3 ∨ w.toInt = 4 ∨ w.toInt = 5 ∨ w.toInt = 6 := by omega
  simp only [← Int32.toInt_inj]
  exact hh
