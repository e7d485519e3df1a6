/-! sheets, ways -/
abbrev oB (o : xO) : Nat → Int32 := o.2.2.2.2.2.2.2.2.1
abbrev oZ (o : xO) : Nat → Int32 := o.2.2.2.2.2.2.2.2.2.1
abbrev oN (o : xO) : Nat → Nat → Int64 := o.2.2.2.2.2.2.2.2.2.2
abbrev qB (q : xQ) : Nat → Int32 := q.2.2.2.2.2.2.2.2.2.2.2.2.1
abbrev qZ (q : xQ) : Nat → Int32 := q.2.2.2.2.2.2.2.2.2.2.2.2.2.1
abbrev qC (q : xQ) : Nat → Int64 := q.2.2.2.2.2.2.2.2.2.2.2.2.2.2
def oS (o : xO) (sb ss : Nat → Int32) (sn : Nat → Nat → Int64) : xO := (o.1, o.2.1, o.2.2.1, o.2.2.2.1, o.2.2.2.2.1, o.2.2.2.2.2.1, o.2.2.2.2.2.2.1, o.2.2.2.2.2.2.2.1, sb, ss, sn)
def qS (q : xQ) (bo so : Nat → Int32) (ce : Nat → Int64) : xQ := (q.1, q.2.1, q.2.2.1, q.2.2.2.1, q.2.2.2.2.1, q.2.2.2.2.2.1, q.2.2.2.2.2.2.1, q.2.2.2.2.2.2.2.1, q.2.2.2.2.2.2.2.2.1, q.2.2.2.2.2.2.2.2.2.1, q.2.2.2.2.2.2.2.2.2.2.1, q.2.2.2.2.2.2.2.2.2.2.2.1, bo, so, ce)
def okS (z : Nat → Int32) : Prop := ∀ s, s < 4 → z s = nI (ix (z s)) ∧ ix (z s) ≤ 40
def zrL (n : Nat) (g : Nat → Int64) : Nat → Int64 := fun k => if k < n then 0 else g k
def zrQ (a n : Nat) (g : Nat → Int64) : Nat → Int64 := fun k => if a ≤ k ∧ k < a + n then 0 else g k
def cut (b : Int32) (v : Int64) : Int64 := if b = 8 then Int32.toInt64 ((Int32.toInt8 (Int64.toInt32 v)).toInt32) else if b = 16 then Int32.toInt64 ((Int32.toInt16 (Int64.toInt32 v)).toInt32) else v
def bkL (b : Int32) (h : Nat → Int32) (n : Nat) (g : Nat → Int64) : Nat → Int64 := fun k => if k < n then cut b (Int32.toInt64 (h k)) else g k
def bkQ (b : Int32) (h : Nat → Int32) (a n : Nat) (g : Nat → Int64) : Nat → Int64 := fun k => if a ≤ k ∧ k < a + n then cut b (Int32.toInt64 (h (k - a))) else g k
def nu (ce : Nat → Int64) (s i : Nat) : Int64 := ce (40 * s + i)
/-- what the first n numbers of a sheet do to the things -/
def lyF (g : Nat → Int64) (i : Nat) (f : Nat → Int32) : Nat → Int32 := if 0 ≤ g i ∧ g i ≤ 99 then upd f (5 + 5 * i + 3) (Int64.toInt32 (g i)) else f
def lyN (g : Nat → Int64) : Nat → Nat
  | 0 => 0
  | n + 1 => if 0 ≤ g n ∧ g n ≤ 99 then lyN g n + 1 else lyN g n
def al (P : Nat → Prop) [DecidablePred P] : Nat → Nat → Int32
  | 0, _ => 1
  | k + 1, t => if P t then al P k (t + 1) else 0
def nh (P : Nat → Prop) [DecidablePred P] : Nat → Nat → Nat
  | 0, t => t
  | k + 1, t => if P t then nh P k (t + 1) else t + 1
abbrev pb (g : Nat → Int64) (f : Nat → Int32) (b i : Nat) : Prop := g i = Int32.toInt64 (hsC i f (45 + 4 * b + 2))
theorem al01 {P : Nat → Prop} [DecidablePred P] : ∀ k t, al P k t = 0 ∨ al P k t = 1 := by
  intro k
  induction k with
  | zero => intro t; right; rfl
  | succ k ih =>
    intro t
    rw [al]
    split
    · exact ih _
    · left; rfl
theorem al_z {P : Nat → Prop} [DecidablePred P] {k t : Nat} : narrow .boolean (.int (al P k t)) = .int (al P k t) := by
  rcases al01 (P := P) k t with h | h <;> rw [h] <;> rfl
theorem zrL_0 {g : Nat → Int64} : zrL 0 g = g := by funext k; simp [zrL]
theorem zrL_s {n : Nat} {g : Nat → Int64} : vp_updL (zrL n g) n 0 = zrL (n + 1) g := by
  funext k
  unfold vp_updL zrL
  by_cases h : k = n
  · rw [if_pos h, if_pos (by omega)]
  · rw [if_neg h]
    by_cases h2 : k < n
    · rw [if_pos h2, if_pos (by omega)]
    · rw [if_neg h2, if_neg (by omega)]
theorem zrQ_0 {a : Nat} {g : Nat → Int64} : zrQ a 0 g = g := by funext k; unfold zrQ; rw [if_neg (by omega)]
theorem zrQ_s {a n : Nat} {g : Nat → Int64} : vp_updL (zrQ a n g) (a + n) 0 = zrQ a (n + 1) g := by
  funext k
  unfold vp_updL zrQ
  by_cases h : k = a + n
  · rw [if_pos h, if_pos (by omega)]
  · rw [if_neg h]
    by_cases h2 : a ≤ k ∧ k < a + n
    · rw [if_pos h2, if_pos (by omega)]
    · rw [if_neg h2, if_neg (by omega)]
theorem bkL_0 {b : Int32} {h : Nat → Int32} {g : Nat → Int64} : bkL b h 0 g = g := by funext k; simp [bkL]
theorem bkL_s {b : Int32} {h : Nat → Int32} {n : Nat} {g : Nat → Int64} : vp_updL (bkL b h n g) n (cut b (Int32.toInt64 (h n))) = bkL b h (n + 1) g := by
  funext k
  unfold vp_updL bkL
  by_cases q : k = n
  · rw [if_pos q, if_pos (by omega), q]
  · rw [if_neg q]
    by_cases h2 : k < n
    · rw [if_pos h2, if_pos (by omega)]
    · rw [if_neg h2, if_neg (by omega)]
theorem bkQ_0 {b : Int32} {h : Nat → Int32} {a : Nat} {g : Nat → Int64} : bkQ b h a 0 g = g := by funext k; unfold bkQ; rw [if_neg (by omega)]
theorem bkQ_s {b : Int32} {h : Nat → Int32} {a n : Nat} {g : Nat → Int64} : vp_updL (bkQ b h a n g) (a + n) (cut b (Int32.toInt64 (h n))) = bkQ b h a (n + 1) g := by
  funext k
  unfold vp_updL bkQ
  by_cases q : k = a + n
  · rw [if_pos q, if_pos (by omega), q, Nat.add_sub_cancel_left]
  · rw [if_neg q]
    by_cases h2 : a ≤ k ∧ k < a + n
    · rw [if_pos h2, if_pos (by omega)]
    · rw [if_neg h2, if_neg (by omega)]
theorem va_up_up {α : Type} {g : Nat → α} {s : Nat} {x y : α} : va_up (va_up g s x) s y = va_up g s y := by
  funext k; unfold va_up; split <;> rfl
theorem va_up_id {α : Type} {g : Nat → α} {s : Nat} : va_up g s (g s) = g := by
  funext k; unfold va_up; split
  · rename_i h; rw [h]
  · rfl
theorem va_up_at {α : Type} {g : Nat → α} {s : Nat} {x : α} : va_up g s x s = x := if_pos rfl
abbrev rgC (a n z : Int32) : Prop := 0 ≤ a ∧ 0 ≤ n ∧ a ≤ z ∧ n ≤ z - a
abbrev SC : Type := Value × xO × (Nat → Int32) × (Nat → Int32)
abbrev SR : Type := Value × xQ × (Nat → Int32)
def cF (o : xO) (f0 f2 : Nat → Int32) (j : Nat) : SC := (.int (-1000000001 - nI j), fnO o (some j), f0, f2)
def rF (q : xQ) (f : Nat → Int32) (j : Nat) : SR := (.int (-1000000001 - nI j), fnQ q (some j), f)
def cFL (o : xO) (f0 f2 : Nat → Int32) (j : Nat) : SC := (.long (Int32.toInt64 (-1000000001 - nI j)), fnO o (some j), f0, f2)
def rFL (q : xQ) (f : Nat → Int32) (j : Nat) : SR := (.long (Int32.toInt64 (-1000000001 - nI j)), fnQ q (some j), f)
def c_sheet (o : xO) (f0 f2 : Nat → Int32) (s b n : Int32) : SC := if (0 ≤ s ∧ s ≤ 3) ∧ (b = 0 ∨ b = 8 ∨ b = 16 ∨ b = 64) then (if n < 0 then cF o f0 f2 6 else if n ≤ 40 then (.int (if b = 0 then 0 else n), oS o (upd (oB o) (ix s) b) (upd (oZ o) (ix s) (if b = 0 then 0 else n)) (va_up (oN o) (ix s) (zrL 40 (oN o (ix s)))), f0, f2) else cF o f0 f2 0) else cF o f0 f2 0
def r_sheet (q : xQ) (f : Nat → Int32) (s b n : Int32) : SR := if (0 ≤ s ∧ s ≤ 3) ∧ (b = 0 ∨ b = 8 ∨ b = 16 ∨ b = 64) then (if n < 0 then rF q f 6 else if n ≤ 40 then (.int (if b = 0 then 0 else n), qS q (upd (qB q) (ix s) b) (upd (qZ q) (ix s) (if b = 0 then 0 else n)) (zrQ (40 * ix s) 40 (qC q)), f) else rF q f 0) else rF q f 0
def c_write (o : xO) (f0 f2 : Nat → Int32) (s i : Int32) (v : Int64) : SC := if 0 ≤ s ∧ s ≤ 3 then (if oB o (ix s) = 0 then cFL o f0 f2 5 else if 0 ≤ i ∧ i < oZ o (ix s) then (.long (oN o (ix s) (ix i)), oS o (oB o) (oZ o) (va_up (oN o) (ix s) (vp_updL (oN o (ix s)) (ix i) (cut (oB o (ix s)) v))), f0, f2) else cFL o f0 f2 0) else cFL o f0 f2 0
def r_write (q : xQ) (f : Nat → Int32) (s i : Int32) (v : Int64) : SR := if 0 ≤ s ∧ s ≤ 3 then (if qB q (ix s) = 0 then rFL q f 5 else if 0 ≤ i ∧ i < qZ q (ix s) then (.long (qC q (40 * ix s + ix i)), qS q (qB q) (qZ q) (vp_updL (qC q) (40 * ix s + ix i) (cut (qB q (ix s)) v)), f) else rFL q f 0) else rFL q f 0
def c_copy (o : xO) (f0 f2 : Nat → Int32) (s a t b n : Int32) : SC := if (0 ≤ s ∧ s ≤ 3) ∧ (0 ≤ t ∧ t ≤ 3) then (if oB o (ix s) = 0 ∨ oB o (ix t) = 0 then cF o f0 f2 5 else if oB o (ix s) = oB o (ix t) then (if rgC a n (oZ o (ix s)) ∧ rgC b n (oZ o (ix t)) then (.int n, oS o (oB o) (oZ o) (va_up (oN o) (ix t) (va_cpy (oN o (ix s)) (oN o (ix t)) (ix a) (ix b) (ix n))), f0, f2) else cF o f0 f2 0) else cF o f0 f2 2) else cF o f0 f2 0
def r_copy (q : xQ) (f : Nat → Int32) (s a t b n : Int32) : SR := if (0 ≤ s ∧ s ≤ 3) ∧ (0 ≤ t ∧ t ≤ 3) then (if qB q (ix s) = 0 ∨ qB q (ix t) = 0 then rF q f 5 else if qB q (ix s) = qB q (ix t) then (if rgC a n (qZ q (ix s)) ∧ rgC b n (qZ q (ix t)) then (.int n, qS q (qB q) (qZ q) (va_cpy (qC q) (qC q) (40 * ix s + ix a) (40 * ix t + ix b) (ix n)), f) else rF q f 0) else rF q f 2) else rF q f 0
def c_lays (o : xO) (f0 f2 : Nat → Int32) (s : Int32) : SC := if 0 ≤ s ∧ s ≤ 3 then (if oB o (ix s) = 0 then cF o f0 f2 5 else (.int (nI (lyN (oN o (ix s)) (min (ix (oZ o (ix s))) (nT f0)))), o, itF (lyF (oN o (ix s))) (min (ix (oZ o (ix s))) (nT f0)) f0, f2)) else cF o f0 f2 0
def r_lays (q : xQ) (f : Nat → Int32) (s : Int32) : SR := if 0 ≤ s ∧ s ≤ 3 then (if qB q (ix s) = 0 then rF q f 5 else (.int (nI (lyN (nu (qC q) (ix s)) (min (ix (qZ q (ix s))) (nT f)))), q, itF (lyF (nu (qC q) (ix s))) (min (ix (qZ q (ix s))) (nT f)) f)) else rF q f 0
def c_book (o : xO) (f0 f2 : Nat → Int32) (s b : Int32) : SC := if 0 ≤ s ∧ s ≤ 3 then (if oB o (ix s) = 0 then cF o f0 f2 5 else if 0 ≤ b ∧ b < f0 4 then (.int (oZ o (ix s)), oS o (oB o) (oZ o) (va_up (oN o) (ix s) (bkL (oB o (ix s)) (fun i => hsC i f0 (45 + 4 * ix b + 2)) (ix (oZ o (ix s))) (oN o (ix s)))), f0, f2) else cF o f0 f2 0) else cF o f0 f2 0
def r_book (q : xQ) (f : Nat → Int32) (s b : Int32) : SR := if 0 ≤ s ∧ s ≤ 3 then (if qB q (ix s) = 0 then rF q f 5 else if 0 ≤ b ∧ b < f 4 then (.int (qZ q (ix s)), qS q (qB q) (qZ q) (bkQ (qB q (ix s)) (fun i => hsC i f (45 + 4 * ix b + 2)) (40 * ix s) (ix (qZ q (ix s))) (qC q)), f) else rF q f 0) else rF q f 0
def rdN (g : Nat → Int64) (f : Nat → Int32) (z b c : Nat) : Int32 := al (pb g (upd f (45 + 4 * b) (nI c)) b) z 0
def c_read (o : xO) (f0 f2 : Nat → Int32) (s b : Int32) : SC := if 0 ≤ s ∧ s ≤ 3 then (if oB o (ix s) = 0 then cF o f0 f2 5 else if 0 ≤ b ∧ b < f0 4 then (.int (sumI (rdN (oN o (ix s)) f0 (ix (oZ o (ix s))) (ix b)) 48), o, f0, f2) else cF o f0 f2 0) else cF o f0 f2 0
def r_read (q : xQ) (f : Nat → Int32) (s b : Int32) : SR := if 0 ≤ s ∧ s ≤ 3 then (if qB q (ix s) = 0 then rF q f 5 else if 0 ≤ b ∧ b < f 4 then (.int (sumI (rdN (nu (qC q) (ix s)) f (ix (qZ q (ix s))) (ix b)) 48), q, f) else rF q f 0) else rF q f 0
/-- a straight way -/
abbrev rpl (f : Nat → Int32) (c : Nat) : Prop := (f 1 >>> (nI c &&& 31)) &&& 1 = 1
def wyL (a b : Nat) : Nat := min (a % 8) (b % 8)
def wyR (a b : Nat) : Nat := max (a % 8) (b % 8)
def wyD (a b : Nat) : Nat := wyR a b - wyL a b + (a / 8 - b / 8 + (b / 8 - a / 8))
def wyQ (f : Nat → Int32) (D : Nat) : Option Nat → SP
  | some _ => (-1000000004, some 3, f)
  | none => (nI D, none, f)
def sp_way (f : Nat → Int32) (a b : Int32) : SP := if (0 ≤ a ∧ a ≤ 47) ∧ (0 ≤ b ∧ b ≤ 47) then wyQ f (wyD (ix a) (ix b)) (srch (rpl f) (wyR (ix a) (ix b) + 1 - wyL (ix a) (ix b)) (wyL (ix a) (ix b))) else (-1000000001, some 0, f)
theorem rem_n {a d : Nat} (ha : a < 2 ^ 31) (h0 : 0 < d) (hd : d < 2 ^ 31) : nI a - nI a / nI d * nI d = nI (a % d) := by
  rw [pk_div ha h0 hd, pk_mul, pk_sub (Nat.div_mul_le_self a d)]
  congr 1
  have := Nat.div_add_mod a d
  rw [Nat.mul_comm] at this
  omega
theorem mx2_n {a b : Nat} (ha : a < 2 ^ 31) (hb : b < 2 ^ 31) : (if nI a < nI b then nI b else nI a) = nI (max a b) := by
  by_cases q : a < b
  · rw [if_pos (nI_lt q hb), Nat.max_eq_right (by omega)]
  · rw [if_neg (nI_nlt (by omega) ha), Nat.max_eq_left (by omega)]
theorem abs_n {a b : Nat} (ha : a < 2 ^ 30) (hb : b < 2 ^ 30) : (if 0 ≤ nI a - nI b then nI a - nI b else 0 - (nI a - nI b)) = nI (a - b + (b - a)) := by
  by_cases q : b ≤ a
  · rw [pk_sub q, if_pos (nI_pos' (by omega))]
    congr 1; omega
  · have e : (nI a - nI b).toInt = (a : Int) - b := pk_sub_toInt ha hb
    have h0 : (0 : Int32).toInt = 0 := by decide
    rw [if_neg (by rw [Int32.le_iff_toInt_le, e, h0]; omega)]
    rw [← Int32.toInt_inj, Int32.toInt_sub, e, h0, nI_toInt (by omega), Int.bmod_eq_of_le] <;> omega
theorem lg_eq {x y : Int64} : (lg_cmp x y = 0) = (x = y) := by
  unfold lg_cmp
  simp only [gt_iff_lt, eq_iff_iff]
  by_cases h1 : y < x
  · rw [if_pos h1]; exact ⟨fun h => absurd h (by decide), fun h => by subst h; rw [Int64.lt_iff_toInt_lt] at h1; omega⟩
  · rw [if_neg h1]
    by_cases h2 : x = y
    · rw [if_pos h2]; exact ⟨fun _ => h2, fun _ => rfl⟩
    · rw [if_neg h2]; exact ⟨fun h => absurd h (by decide), fun h => absurd h h2⟩
def nhc (P : Nat → Prop) [DecidablePred P] : Nat → Nat → Nat
  | 0, t => t
  | k + 1, t => if P t then nhc P k (t + 1) else t
theorem sheet_n {s : Int32} (h : 0 ≤ s ∧ s ≤ 3) : ∃ j, j ≤ 3 ∧ s = nI j := rngN (n := 3) h (by decide)
theorem num_n {i z : Int32} {n : Nat} (h : 0 ≤ i ∧ i < z) (hz : z = nI n) (hn : n ≤ 40) : ∃ j, j < n ∧ i = nI j := by
  obtain ⟨j, hj, rfl⟩ := nI_of (Int32.not_lt.mpr h.1)
  have h2 := h.2
  rw [hz, nI_ltI hj (by omega)] at h2
  exact ⟨j, h2, rfl⟩
theorem rg_n {a n z : Int32} {k : Nat} (h : rgC a n z) (hz : z = nI k) (hk : k ≤ 40) : ∃ i j, i + j ≤ k ∧ a = nI i ∧ n = nI j := by
  obtain ⟨h1, h2, h3, h4⟩ := h
  obtain ⟨i, hi, rfl⟩ := nI_of (Int32.not_lt.mpr h1)
  obtain ⟨j, hj, rfl⟩ := nI_of (Int32.not_lt.mpr h2)
  rw [hz, nI_leI hi (by omega)] at h3
  rw [hz, pk_sub h3, nI_leI hj (by omega)] at h4
  exact ⟨i, j, by omega, rfl, rfl⟩
/-- the reference's range is the class's -/
theorem rg_iff {a n z : Int32} {k : Nat} (hz : z = nI k) (hk : k ≤ 40) : rgC a n z ↔ (0 ≤ n ∧ 0 ≤ a ∧ n ≤ z - a) := by
  refine ⟨fun h => ⟨h.2.1, h.1, h.2.2.2⟩, fun h => ⟨h.2.1, h.1, ?_, h.2.2⟩⟩
  obtain ⟨h1, h2, h3⟩ := h
  have a0 := h2
  rw [Int32.le_iff_toInt_le] at h1 h2 h3 ⊢
  have e0 : (0 : Int32).toInt = 0 := by decide
  have ez : z.toInt = k := by rw [hz]; exact nI_toInt (by omega)
  have hlt := Int32.toInt_lt a
  have es : (z - a).toInt = (k : Int) - a.toInt := by
    rw [Int32.toInt_sub, ez]
    rw [Int.bmod_eq_of_le] <;> omega
  omega
