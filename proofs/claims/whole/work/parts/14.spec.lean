/-! small rows for walks -/
theorem xlit (n : Nat) : (OfNat.ofNat n : Int32) = nI n := rfl
theorem xinc (t : Nat) : nI t + Int32.ofInt 1 = nI (t + 1) := nI_1 t
section XB
variable {X : xS} {z : Bool} {d k n : Nat} {M : xM} {pc : Nat} {ls : List (Option Value)} {st : List Value} {h : List va_E} {Q : List Value → List va_E → Prop}
theorem xg_bz {P : Prop} [Decidable P] {off : Int} {tgt : Nat} (hd : decode M.2.1 pc = .ok (.ifCond .eq off, 3)) (ht : (pc : Int) + off = (tgt : Int)) (gt : ¬ P → xGo X z d k n M tgt ls st h Q) (gf : P → xGo X z d k n M (pc + 3) ls st h Q) : xGo X z d k n M pc ls (.int (if P then 1 else 0) :: st) h Q := by
  refine xg_if_eq hd ht (fun c => gt (fun p => ?_)) (fun c => gf ?_)
  · rw [if_pos p] at c; exact absurd c (by decide)
  · by_cases p : P
    · exact p
    · rw [if_neg p] at c; exact absurd rfl c
theorem xg_bnz {P : Prop} [Decidable P] {off : Int} {tgt : Nat} (hd : decode M.2.1 pc = .ok (.ifCond .ne off, 3)) (ht : (pc : Int) + off = (tgt : Int)) (gt : P → xGo X z d k n M tgt ls st h Q) (gf : ¬ P → xGo X z d k n M (pc + 3) ls st h Q) : xGo X z d k n M pc ls (.int (if P then 1 else 0) :: st) h Q := by
  refine xg_if_ne hd ht (fun c => gt ?_) (fun c => gf (fun p => ?_))
  · by_cases p : P
    · exact p
    · rw [if_neg p] at c; exact absurd rfl c
  · rw [if_pos p] at c; exact absurd c (by decide)
end XB
/-- three lakes -/
def tri (f0 f1 f2 : Nat → Int32) : Nat → Nat → Int32
  | 0 => f0
  | 1 => f1
  | _ => f2
theorem tri_up0 {f0 f1 f2 f : Nat → Int32} : va_up (tri f0 f1 f2) 0 f = tri f f1 f2 := by
  funext L; match L with | 0 => rfl | 1 => rfl | L + 2 => rfl
theorem tri_up1 {f0 f1 f2 f : Nat → Int32} : va_up (tri f0 f1 f2) 1 f = tri f0 f f2 := by
  funext L; match L with | 0 => rfl | 1 => rfl | L + 2 => rfl
/-! the words of both systems: pictures are 65 numbers: hour, ripples, fog, how many things, boats; things of 5 (kind, column, height, light, fee), boats of 4 (at, net, hold, coins) -/
/-- held -/
def cl3 (v a b : Int32) : Int32 := if v < a then a else if b < v then b else v
def mn2 (x y : Int32) : Int32 := if y < x then y else x
/-- a tower's reach, the class's way -/
def tw6 (x : Int32) : Int32 := if x < 6 then x + 1 else 6
def mx2 (x y : Int32) : Int32 := if x < y then y else x
def md (x y : Int32) : Int32 := x - x / y * y
/-- how far a thing of kind k, height hi, reaches at hour h; tw: as a tower -/
def rch (tw h k hi : Int32) : Int32 :=
  if k = 1 then tw else if k = 2 ∨ k = 5 then (if 8 ≤ md h 24 ∧ md h 24 ≤ 17 then hi else 0) else if k = 3 then (if 6 ≤ md h 24 ∧ md h 24 ≤ 17 then 0 else 6) else if k = 4 then (if md h 2 = 0 then tw else tw / 2) else hi
def shn (k li row : Int32) : Int32 :=
  if k = 2 then 2 * (li / (row + 1)) else if k = 3 then li / (row + 1) / 2 else if k = 4 then li / (row + 1) + row else if k = 5 then 2 * (li / (row + 1)) + (if 0 < li then 3 else 0) else li / (row + 1)
def txd (k fe : Int32) : Int32 := if k = 2 then fe + 2 else if k = 3 then 0 else if k = 5 then 2 * (fe + 2) else fe
/-- the reference's reach, and the class's -/
def rR (f : Nat → Int32) (t : Nat) : Int32 := rch (cl3 (f (5 + 5 * t + 2) + 1) 0 6) (f 0) (f (5 + 5 * t)) (f (5 + 5 * t + 2))
def rC (f : Nat → Int32) (t : Nat) : Int32 := rch (tw6 (f (5 + 5 * t + 2))) (f 0) (f (5 + 5 * t)) (f (5 + 5 * t + 2))
abbrev mirR (f : Nat → Int32) (t : Nat) (c : Int32) : Prop := f (5 + 5 * t + 1) = md c 8 ∧ c / 8 < rR f t
abbrev mirC (f : Nat → Int32) (t : Nat) (c : Int32) : Prop := md c 8 = f (5 + 5 * t + 1) ∧ c / 8 < rC f t
def sumI (g : Nat → Int32) : Nat → Int32
  | 0 => 0
  | n + 1 => sumI g n + g n
def orI (g : Nat → Int32) : Nat → Int32
  | 0 => 0
  | n + 1 => orI g n ||| g n
theorem wide_le (a b : Int32) : a.toInt64 ≤ b.toInt64 ↔ a ≤ b := by
  rw [Int64.le_iff_toInt_le, Int32.le_iff_toInt_le, Int32.toInt_toInt64, Int32.toInt_toInt64]
theorem lg_lt {x y : Int64} : (lg_cmp x y < 0) = (x < y) := by
  unfold lg_cmp
  simp only [gt_iff_lt, eq_iff_iff]
  by_cases h1 : y < x
  · rw [if_pos h1]; exact ⟨fun h => absurd h (by decide), fun h => by rw [Int64.lt_iff_toInt_lt] at *; omega⟩
  · rw [if_neg h1]
    by_cases h2 : x = y
    · rw [if_pos h2]; exact ⟨fun h => absurd h (by decide), fun h => by subst h2; exact absurd h h1⟩
    · rw [if_neg h2]; exact ⟨fun _ => by rw [Int64.lt_iff_toInt_lt] at *; rw [← Int64.toInt_inj] at h2; omega, fun _ => by decide⟩
theorem lg_gt {x y : Int64} : (0 < lg_cmp x y) = (y < x) := by
  unfold lg_cmp
  simp only [gt_iff_lt, eq_iff_iff]
  by_cases h1 : y < x
  · rw [if_pos h1]; exact ⟨fun _ => h1, fun h => by decide⟩
  · rw [if_neg h1]
    by_cases h2 : x = y
    · rw [if_pos h2]; exact ⟨fun h => absurd h (by decide), fun h => absurd h h1⟩
    · rw [if_neg h2]; exact ⟨fun h => absurd h (by decide), fun h => absurd h h1⟩
abbrev rip (f : Nat → Int32) (c : Int32) : Prop := (f 1 >>> (md c 8 &&& 31)) &&& 1 = 1
def nT (f : Nat → Int32) : Nat := (f 3).toNatClampNeg
def nB (f : Nat → Int32) : Nat := (f 4).toNatClampNeg
def okN (f : Nat → Int32) : Prop := f 3 = nI (nT f) ∧ nT f ≤ 8 ∧ f 4 = nI (nB f) ∧ nB f ≤ 5
/-- the reference's sums over things at a cell -/
def gR (f : Nat → Int32) (c : Int32) (t : Nat) : Int32 := if mirR f t c then shn (f (5 + 5 * t)) (f (5 + 5 * t + 3)) (c / 8) else 0
def glR (f : Nat → Int32) (c : Int32) : Int32 := if f 2 = 1 then 0 else if rip f c then sumI (gR f c) (nT f) / 3 else sumI (gR f c) (nT f)
def oR (f : Nat → Int32) (c : Int32) (t : Nat) : Int32 := if mirR f t c then 1 <<< (nI t &&& 31) else 0
def tR (f : Nat → Int32) (c : Int32) (t : Nat) : Int32 := if mirR f t c then txd (f (5 + 5 * t)) (f (5 + 5 * t + 4)) else 0
def bA (f : Nat → Int32) (c : Int32) (j : Nat) : Int32 := if f (45 + 4 * j) = c then 1 <<< (nI j &&& 31) else 0
def sB (f : Nat → Int32) (w j : Nat) : Int32 := f (45 + 4 * j + w)
theorem cell_n {c : Int32} (h : 0 ≤ c ∧ c ≤ 47) : ∃ m : Nat, m < 48 ∧ c = nI m := by
  obtain ⟨j, hj, e⟩ := nI_of2 (M := 47) (n := 47) (by decide) (Int32.not_lt.mpr h.1) h.2
  exact ⟨j, by omega, e⟩
theorem row1 {c : Int32} (h : 0 ≤ c ∧ c ≤ 47) : ¬ c / 8 + 1 = 0 := by
  obtain ⟨m, hm, rfl⟩ := cell_n h
  rw [show (8 : Int32) = nI 8 from rfl, pk_div (by omega) (by decide) (by decide), nI_1]
  exact nI_ne0 (by omega) (by omega)
