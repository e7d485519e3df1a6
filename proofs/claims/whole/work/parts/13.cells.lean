/-! THE CELLS of both systems, as they stand behind the constructors -/
/-- the class but its lakes: kept or not, findings, tape, reader (type, place, end, value), sheets (bits, sizes, numbers) -/
abbrev xO : Type := Int32 × (Nat → Int32) × Int32 × (Nat → Int32) × Int32 × Int32 × Int32 × Int32 × (Nat → Int32) × (Nat → Int32) × (Nat → Nat → Int64)
/-- the reference but m and was: kept, isKept, found, come, edge, tape, taped, token, begin, at, value, bad, bitsOf, sizeOf, cells -/
abbrev xQ : Type := (Nat → Int32) × Int32 × (Nat → Int32) × (Nat → Int32) × (Nat → Int32) × (Nat → Int32) × Int32 × Int32 × Int32 × Int32 × Int32 × Int32 × (Nat → Int32) × (Nat → Int32) × (Nat → Int64)
def tfs (f : Nat → Int32) (i : Nat) : List Value := [.int (f (5 + 5 * i)), .int (f (5 + 5 * i + 1)), .int (f (5 + 5 * i + 2)), .int (f (5 + 5 * i + 3)), .int (f (5 + 5 * i + 4))]
def bfs (f : Nat → Int32) (j : Nat) : List Value := [.int (f (45 + 4 * j)), .int (f (45 + 4 * j + 1)), .int (f (45 + 4 * j + 2)), .int (f (45 + 4 * j + 3))]
def lfs (f : Nat → Int32) (L : Nat) : List Value := [.int (f 0), .int (f 1), .int (f 2), .int (f 3), .int (f 4), .ref (2 + 16 * L), .ref (11 + 16 * L)]
def trf (L : Nat) : Nat → Option Nat := fun j => if j < 8 then some (3 + 16 * L + j) else none
def brf (L : Nat) : Nat → Option Nat := fun j => if j < 5 then some (12 + 16 * L + j) else none
def srf : Nat → Option Nat := fun j => if j < 4 then some (53 + 2 * j) else none
def sfs (sb ss : Nat → Int32) (s : Nat) : List Value := [.int (sb s), .int (ss s), .ref (54 + 2 * s)]
def gfs (o : xO) : List Value := [.ref 1, .ref 17, .ref 33, .int o.1, .ref 49, .ref 51, .ref 52, .ref 61]
def pfs (o : xO) : List Value := [.int o.2.2.1, .ref 50]
def rfs (o : xO) : List Value := [.ref 49, .int o.2.2.2.2.1, .int o.2.2.2.2.2.1, .int o.2.2.2.2.2.2.1, .int o.2.2.2.2.2.2.2.1]
def mfs (q : xQ) : List Value := [.ref 63, .ref 64, .ref 65, .int q.2.1, .ref 66, .ref 67, .ref 68, .ref 69, .int q.2.2.2.2.2.2.1, .int q.2.2.2.2.2.2.2.1, .int q.2.2.2.2.2.2.2.2.1, .int q.2.2.2.2.2.2.2.2.2.1, .int q.2.2.2.2.2.2.2.2.2.2.1, .int q.2.2.2.2.2.2.2.2.2.2.2.1, .ref 70, .ref 71, .ref 72]
def hp (lk : Nat → Nat → Int32) (o : xO) (mf wf : Nat → Int32) (q : xQ) : List va_E :=
  [.inr (6, gfs o),
   .inr (1, lfs (lk 0) 0),
   .inl (3, 8, .inr (.inr (.inr (.inr (trf 0))))),
   .inr (5, tfs (lk 0) 0),
   .inr (5, tfs (lk 0) 1),
   .inr (5, tfs (lk 0) 2),
   .inr (5, tfs (lk 0) 3),
   .inr (5, tfs (lk 0) 4),
   .inr (5, tfs (lk 0) 5),
   .inr (5, tfs (lk 0) 6),
   .inr (5, tfs (lk 0) 7),
   .inl (4, 5, .inr (.inr (.inr (.inr (brf 0))))),
   .inr (0, bfs (lk 0) 0),
   .inr (0, bfs (lk 0) 1),
   .inr (0, bfs (lk 0) 2),
   .inr (0, bfs (lk 0) 3),
   .inr (0, bfs (lk 0) 4),
   .inr (1, lfs (lk 1) 1),
   .inl (3, 8, .inr (.inr (.inr (.inr (trf 1))))),
   .inr (5, tfs (lk 1) 0),
   .inr (5, tfs (lk 1) 1),
   .inr (5, tfs (lk 1) 2),
   .inr (5, tfs (lk 1) 3),
   .inr (5, tfs (lk 1) 4),
   .inr (5, tfs (lk 1) 5),
   .inr (5, tfs (lk 1) 6),
   .inr (5, tfs (lk 1) 7),
   .inl (4, 5, .inr (.inr (.inr (.inr (brf 1))))),
   .inr (0, bfs (lk 1) 0),
   .inr (0, bfs (lk 1) 1),
   .inr (0, bfs (lk 1) 2),
   .inr (0, bfs (lk 1) 3),
   .inr (0, bfs (lk 1) 4),
   .inr (1, lfs (lk 2) 2),
   .inl (3, 8, .inr (.inr (.inr (.inr (trf 2))))),
   .inr (5, tfs (lk 2) 0),
   .inr (5, tfs (lk 2) 1),
   .inr (5, tfs (lk 2) 2),
   .inr (5, tfs (lk 2) 3),
   .inr (5, tfs (lk 2) 4),
   .inr (5, tfs (lk 2) 5),
   .inr (5, tfs (lk 2) 6),
   .inr (5, tfs (lk 2) 7),
   .inl (4, 5, .inr (.inr (.inr (.inr (brf 2))))),
   .inr (0, bfs (lk 2) 0),
   .inr (0, bfs (lk 2) 1),
   .inr (0, bfs (lk 2) 2),
   .inr (0, bfs (lk 2) 3),
   .inr (0, bfs (lk 2) 4),
   .inr (3, pfs o),
   .inl (0, 120, .inl o.2.2.2.1),
   .inr (4, rfs o),
   .inl (5, 4, .inr (.inr (.inr (.inr (srf))))),
   .inr (2, sfs o.2.2.2.2.2.2.2.2.1 o.2.2.2.2.2.2.2.2.2.1 0),
   .inl (1, 40, .inr (.inl (o.2.2.2.2.2.2.2.2.2.2 0))),
   .inr (2, sfs o.2.2.2.2.2.2.2.2.1 o.2.2.2.2.2.2.2.2.2.1 1),
   .inl (1, 40, .inr (.inl (o.2.2.2.2.2.2.2.2.2.2 1))),
   .inr (2, sfs o.2.2.2.2.2.2.2.2.1 o.2.2.2.2.2.2.2.2.2.1 2),
   .inl (1, 40, .inr (.inl (o.2.2.2.2.2.2.2.2.2.2 2))),
   .inr (2, sfs o.2.2.2.2.2.2.2.2.1 o.2.2.2.2.2.2.2.2.2.1 3),
   .inl (1, 40, .inr (.inl (o.2.2.2.2.2.2.2.2.2.2 3))),
   .inl (0, 7, .inl o.2.1),
   .inr (7, mfs q),
   .inl (0, 65, .inl mf),
   .inl (0, 65, .inl q.1),
   .inl (0, 65, .inl wf),
   .inl (0, 7, .inl q.2.2.1),
   .inl (2, 48, .inl q.2.2.2.1),
   .inl (0, 48, .inl q.2.2.2.2.1),
   .inl (0, 120, .inl q.2.2.2.2.2.1),
   .inl (0, 4, .inl q.2.2.2.2.2.2.2.2.2.2.2.2.1),
   .inl (0, 4, .inl q.2.2.2.2.2.2.2.2.2.2.2.2.2.1),
   .inl (1, 160, .inr (.inl q.2.2.2.2.2.2.2.2.2.2.2.2.2.2))]
section HP
variable {lk : Nat → Nat → Int32} {o : xO} {mf wf : Nat → Int32} {q : xQ} {f : Nat → Int32} {L i j s c : Nat} {x : Int32}
theorem hp_0 : (hp lk o mf wf q)[0]? = some (.inr (6, gfs o)) := rfl
theorem hp_49 : (hp lk o mf wf q)[49]? = some (.inr (3, pfs o)) := rfl
theorem hp_50 : (hp lk o mf wf q)[50]? = some (.inl (0, 120, .inl o.2.2.2.1)) := rfl
theorem hp_51 : (hp lk o mf wf q)[51]? = some (.inr (4, rfs o)) := rfl
theorem hp_52 : (hp lk o mf wf q)[52]? = some (.inl (5, 4, .inr (.inr (.inr (.inr (srf)))))) := rfl
theorem hp_61 : (hp lk o mf wf q)[61]? = some (.inl (0, 7, .inl o.2.1)) := rfl
theorem hp_62 : (hp lk o mf wf q)[62]? = some (.inr (7, mfs q)) := rfl
theorem hp_63 : (hp lk o mf wf q)[63]? = some (.inl (0, 65, .inl mf)) := rfl
theorem hp_64 : (hp lk o mf wf q)[64]? = some (.inl (0, 65, .inl q.1)) := rfl
theorem hp_65 : (hp lk o mf wf q)[65]? = some (.inl (0, 65, .inl wf)) := rfl
theorem hp_66 : (hp lk o mf wf q)[66]? = some (.inl (0, 7, .inl q.2.2.1)) := rfl
theorem hp_67 : (hp lk o mf wf q)[67]? = some (.inl (2, 48, .inl q.2.2.2.1)) := rfl
theorem hp_68 : (hp lk o mf wf q)[68]? = some (.inl (0, 48, .inl q.2.2.2.2.1)) := rfl
theorem hp_69 : (hp lk o mf wf q)[69]? = some (.inl (0, 120, .inl q.2.2.2.2.2.1)) := rfl
theorem hp_70 : (hp lk o mf wf q)[70]? = some (.inl (0, 4, .inl q.2.2.2.2.2.2.2.2.2.2.2.2.1)) := rfl
theorem hp_71 : (hp lk o mf wf q)[71]? = some (.inl (0, 4, .inl q.2.2.2.2.2.2.2.2.2.2.2.2.2.1)) := rfl
theorem hp_72 : (hp lk o mf wf q)[72]? = some (.inl (1, 160, .inr (.inl q.2.2.2.2.2.2.2.2.2.2.2.2.2.2))) := rfl
theorem lt3 (h : L < 3) : L = 0 ∨ L = 1 ∨ L = 2 := by omega
theorem lt8 (h : i < 8) : i = 0 ∨ i = 1 ∨ i = 2 ∨ i = 3 ∨ i = 4 ∨ i = 5 ∨ i = 6 ∨ i = 7 := by omega
theorem lt5 (h : i < 5) : i = 0 ∨ i = 1 ∨ i = 2 ∨ i = 3 ∨ i = 4 := by omega
theorem lt4 (h : i < 4) : i = 0 ∨ i = 1 ∨ i = 2 ∨ i = 3 := by omega
theorem hp_lake (hL : L < 3) : (hp (va_up lk L f) o mf wf q)[1 + 16 * L]? = some (.inr (1, lfs f L)) := by
  rcases lt3 hL with rfl | rfl | rfl <;> rfl
theorem hp_tarr (hL : L < 3) : (hp (va_up lk L f) o mf wf q)[2 + 16 * L]? = some (.inl (3, 8, .inr (.inr (.inr (.inr (trf L)))))) := by
  rcases lt3 hL with rfl | rfl | rfl <;> rfl
theorem hp_barr (hL : L < 3) : (hp (va_up lk L f) o mf wf q)[11 + 16 * L]? = some (.inl (4, 5, .inr (.inr (.inr (.inr (brf L)))))) := by
  rcases lt3 hL with rfl | rfl | rfl <;> rfl
theorem hp_thing (hL : L < 3) (hi : i < 8) : (hp (va_up lk L f) o mf wf q)[3 + 16 * L + i]? = some (.inr (5, tfs f i)) := by
  rcases lt3 hL with rfl | rfl | rfl <;> rcases lt8 hi with rfl | rfl | rfl | rfl | rfl | rfl | rfl | rfl <;> rfl
theorem hp_boat (hL : L < 3) (hj : j < 5) : (hp (va_up lk L f) o mf wf q)[12 + 16 * L + j]? = some (.inr (0, bfs f j)) := by
  rcases lt3 hL with rfl | rfl | rfl <;> rcases lt5 hj with rfl | rfl | rfl | rfl | rfl <;> rfl
theorem hp_sheet (hs : s < 4) : (hp lk o mf wf q)[53 + 2 * s]? = some (.inr (2, sfs o.2.2.2.2.2.2.2.2.1 o.2.2.2.2.2.2.2.2.2.1 s)) := by
  rcases lt4 hs with rfl | rfl | rfl | rfl <;> rfl
theorem hp_nums (hs : s < 4) : (hp lk o mf wf q)[54 + 2 * s]? = some (.inl (1, 40, .inr (.inl (o.2.2.2.2.2.2.2.2.2.2 s)))) := by
  rcases lt4 hs with rfl | rfl | rfl | rfl <;> rfl
theorem hs_sk : (hp lk o mf wf q).set 0 (.inr (6, (gfs o).set 3 (.int x))) = hp lk (x, o.2.1, o.2.2.1, o.2.2.2.1, o.2.2.2.2.1, o.2.2.2.2.2.1, o.2.2.2.2.2.2.1, o.2.2.2.2.2.2.2.1, o.2.2.2.2.2.2.2.2.1, o.2.2.2.2.2.2.2.2.2.1, o.2.2.2.2.2.2.2.2.2.2) mf wf q := rfl
theorem hs_tl : (hp lk o mf wf q).set 49 (.inr (3, (pfs o).set 0 (.int x))) = hp lk (o.1, o.2.1, x, o.2.2.2.1, o.2.2.2.2.1, o.2.2.2.2.2.1, o.2.2.2.2.2.2.1, o.2.2.2.2.2.2.2.1, o.2.2.2.2.2.2.2.2.1, o.2.2.2.2.2.2.2.2.2.1, o.2.2.2.2.2.2.2.2.2.2) mf wf q := rfl
theorem hs_tb : (hp lk o mf wf q).set 50 (.inl (0, 120, .inl f)) = hp lk (o.1, o.2.1, o.2.2.1, f, o.2.2.2.2.1, o.2.2.2.2.2.1, o.2.2.2.2.2.2.1, o.2.2.2.2.2.2.2.1, o.2.2.2.2.2.2.2.2.1, o.2.2.2.2.2.2.2.2.2.1, o.2.2.2.2.2.2.2.2.2.2) mf wf q := rfl
theorem hs_ry : (hp lk o mf wf q).set 51 (.inr (4, (rfs o).set 1 (.int x))) = hp lk (o.1, o.2.1, o.2.2.1, o.2.2.2.1, x, o.2.2.2.2.2.1, o.2.2.2.2.2.2.1, o.2.2.2.2.2.2.2.1, o.2.2.2.2.2.2.2.2.1, o.2.2.2.2.2.2.2.2.2.1, o.2.2.2.2.2.2.2.2.2.2) mf wf q := rfl
theorem hs_rp : (hp lk o mf wf q).set 51 (.inr (4, (rfs o).set 2 (.int x))) = hp lk (o.1, o.2.1, o.2.2.1, o.2.2.2.1, o.2.2.2.2.1, x, o.2.2.2.2.2.2.1, o.2.2.2.2.2.2.2.1, o.2.2.2.2.2.2.2.2.1, o.2.2.2.2.2.2.2.2.2.1, o.2.2.2.2.2.2.2.2.2.2) mf wf q := rfl
theorem hs_re : (hp lk o mf wf q).set 51 (.inr (4, (rfs o).set 3 (.int x))) = hp lk (o.1, o.2.1, o.2.2.1, o.2.2.2.1, o.2.2.2.2.1, o.2.2.2.2.2.1, x, o.2.2.2.2.2.2.2.1, o.2.2.2.2.2.2.2.2.1, o.2.2.2.2.2.2.2.2.2.1, o.2.2.2.2.2.2.2.2.2.2) mf wf q := rfl
theorem hs_rv : (hp lk o mf wf q).set 51 (.inr (4, (rfs o).set 4 (.int x))) = hp lk (o.1, o.2.1, o.2.2.1, o.2.2.2.1, o.2.2.2.2.1, o.2.2.2.2.2.1, o.2.2.2.2.2.2.1, x, o.2.2.2.2.2.2.2.2.1, o.2.2.2.2.2.2.2.2.2.1, o.2.2.2.2.2.2.2.2.2.2) mf wf q := rfl
theorem hs_fc : (hp lk o mf wf q).set 61 (.inl (0, 7, .inl f)) = hp lk (o.1, f, o.2.2.1, o.2.2.2.1, o.2.2.2.2.1, o.2.2.2.2.2.1, o.2.2.2.2.2.2.1, o.2.2.2.2.2.2.2.1, o.2.2.2.2.2.2.2.2.1, o.2.2.2.2.2.2.2.2.2.1, o.2.2.2.2.2.2.2.2.2.2) mf wf q := rfl
theorem hs_ik : (hp lk o mf wf q).set 62 (.inr (7, (mfs q).set 3 (.int x))) = hp lk o mf wf (q.1, x, q.2.2.1, q.2.2.2.1, q.2.2.2.2.1, q.2.2.2.2.2.1, q.2.2.2.2.2.2.1, q.2.2.2.2.2.2.2.1, q.2.2.2.2.2.2.2.2.1, q.2.2.2.2.2.2.2.2.2.1, q.2.2.2.2.2.2.2.2.2.2.1, q.2.2.2.2.2.2.2.2.2.2.2.1, q.2.2.2.2.2.2.2.2.2.2.2.2.1, q.2.2.2.2.2.2.2.2.2.2.2.2.2.1, q.2.2.2.2.2.2.2.2.2.2.2.2.2.2) := rfl
theorem hs_td : (hp lk o mf wf q).set 62 (.inr (7, (mfs q).set 8 (.int x))) = hp lk o mf wf (q.1, q.2.1, q.2.2.1, q.2.2.2.1, q.2.2.2.2.1, q.2.2.2.2.2.1, x, q.2.2.2.2.2.2.2.1, q.2.2.2.2.2.2.2.2.1, q.2.2.2.2.2.2.2.2.2.1, q.2.2.2.2.2.2.2.2.2.2.1, q.2.2.2.2.2.2.2.2.2.2.2.1, q.2.2.2.2.2.2.2.2.2.2.2.2.1, q.2.2.2.2.2.2.2.2.2.2.2.2.2.1, q.2.2.2.2.2.2.2.2.2.2.2.2.2.2) := rfl
theorem hs_tk : (hp lk o mf wf q).set 62 (.inr (7, (mfs q).set 9 (.int x))) = hp lk o mf wf (q.1, q.2.1, q.2.2.1, q.2.2.2.1, q.2.2.2.2.1, q.2.2.2.2.2.1, q.2.2.2.2.2.2.1, x, q.2.2.2.2.2.2.2.2.1, q.2.2.2.2.2.2.2.2.2.1, q.2.2.2.2.2.2.2.2.2.2.1, q.2.2.2.2.2.2.2.2.2.2.2.1, q.2.2.2.2.2.2.2.2.2.2.2.2.1, q.2.2.2.2.2.2.2.2.2.2.2.2.2.1, q.2.2.2.2.2.2.2.2.2.2.2.2.2.2) := rfl
theorem hs_bg : (hp lk o mf wf q).set 62 (.inr (7, (mfs q).set 10 (.int x))) = hp lk o mf wf (q.1, q.2.1, q.2.2.1, q.2.2.2.1, q.2.2.2.2.1, q.2.2.2.2.2.1, q.2.2.2.2.2.2.1, q.2.2.2.2.2.2.2.1, x, q.2.2.2.2.2.2.2.2.2.1, q.2.2.2.2.2.2.2.2.2.2.1, q.2.2.2.2.2.2.2.2.2.2.2.1, q.2.2.2.2.2.2.2.2.2.2.2.2.1, q.2.2.2.2.2.2.2.2.2.2.2.2.2.1, q.2.2.2.2.2.2.2.2.2.2.2.2.2.2) := rfl
theorem hs_pt : (hp lk o mf wf q).set 62 (.inr (7, (mfs q).set 11 (.int x))) = hp lk o mf wf (q.1, q.2.1, q.2.2.1, q.2.2.2.1, q.2.2.2.2.1, q.2.2.2.2.2.1, q.2.2.2.2.2.2.1, q.2.2.2.2.2.2.2.1, q.2.2.2.2.2.2.2.2.1, x, q.2.2.2.2.2.2.2.2.2.2.1, q.2.2.2.2.2.2.2.2.2.2.2.1, q.2.2.2.2.2.2.2.2.2.2.2.2.1, q.2.2.2.2.2.2.2.2.2.2.2.2.2.1, q.2.2.2.2.2.2.2.2.2.2.2.2.2.2) := rfl
theorem hs_va : (hp lk o mf wf q).set 62 (.inr (7, (mfs q).set 12 (.int x))) = hp lk o mf wf (q.1, q.2.1, q.2.2.1, q.2.2.2.1, q.2.2.2.2.1, q.2.2.2.2.2.1, q.2.2.2.2.2.2.1, q.2.2.2.2.2.2.2.1, q.2.2.2.2.2.2.2.2.1, q.2.2.2.2.2.2.2.2.2.1, x, q.2.2.2.2.2.2.2.2.2.2.2.1, q.2.2.2.2.2.2.2.2.2.2.2.2.1, q.2.2.2.2.2.2.2.2.2.2.2.2.2.1, q.2.2.2.2.2.2.2.2.2.2.2.2.2.2) := rfl
theorem hs_bd : (hp lk o mf wf q).set 62 (.inr (7, (mfs q).set 13 (.int x))) = hp lk o mf wf (q.1, q.2.1, q.2.2.1, q.2.2.2.1, q.2.2.2.2.1, q.2.2.2.2.2.1, q.2.2.2.2.2.2.1, q.2.2.2.2.2.2.2.1, q.2.2.2.2.2.2.2.2.1, q.2.2.2.2.2.2.2.2.2.1, q.2.2.2.2.2.2.2.2.2.2.1, x, q.2.2.2.2.2.2.2.2.2.2.2.2.1, q.2.2.2.2.2.2.2.2.2.2.2.2.2.1, q.2.2.2.2.2.2.2.2.2.2.2.2.2.2) := rfl
theorem hs_mf : (hp lk o mf wf q).set 63 (.inl (0, 65, .inl f)) = hp lk o f wf q := rfl
theorem hs_wf : (hp lk o mf wf q).set 65 (.inl (0, 65, .inl f)) = hp lk o mf f q := rfl
theorem hs_kf : (hp lk o mf wf q).set 64 (.inl (0, 65, .inl f)) = hp lk o mf wf (f, q.2.1, q.2.2.1, q.2.2.2.1, q.2.2.2.2.1, q.2.2.2.2.2.1, q.2.2.2.2.2.2.1, q.2.2.2.2.2.2.2.1, q.2.2.2.2.2.2.2.2.1, q.2.2.2.2.2.2.2.2.2.1, q.2.2.2.2.2.2.2.2.2.2.1, q.2.2.2.2.2.2.2.2.2.2.2.1, q.2.2.2.2.2.2.2.2.2.2.2.2.1, q.2.2.2.2.2.2.2.2.2.2.2.2.2.1, q.2.2.2.2.2.2.2.2.2.2.2.2.2.2) := rfl
theorem hs_fo : (hp lk o mf wf q).set 66 (.inl (0, 7, .inl f)) = hp lk o mf wf (q.1, q.2.1, f, q.2.2.2.1, q.2.2.2.2.1, q.2.2.2.2.2.1, q.2.2.2.2.2.2.1, q.2.2.2.2.2.2.2.1, q.2.2.2.2.2.2.2.2.1, q.2.2.2.2.2.2.2.2.2.1, q.2.2.2.2.2.2.2.2.2.2.1, q.2.2.2.2.2.2.2.2.2.2.2.1, q.2.2.2.2.2.2.2.2.2.2.2.2.1, q.2.2.2.2.2.2.2.2.2.2.2.2.2.1, q.2.2.2.2.2.2.2.2.2.2.2.2.2.2) := rfl
theorem hs_co : (hp lk o mf wf q).set 67 (.inl (2, 48, .inl f)) = hp lk o mf wf (q.1, q.2.1, q.2.2.1, f, q.2.2.2.2.1, q.2.2.2.2.2.1, q.2.2.2.2.2.2.1, q.2.2.2.2.2.2.2.1, q.2.2.2.2.2.2.2.2.1, q.2.2.2.2.2.2.2.2.2.1, q.2.2.2.2.2.2.2.2.2.2.1, q.2.2.2.2.2.2.2.2.2.2.2.1, q.2.2.2.2.2.2.2.2.2.2.2.2.1, q.2.2.2.2.2.2.2.2.2.2.2.2.2.1, q.2.2.2.2.2.2.2.2.2.2.2.2.2.2) := rfl
theorem hs_ed : (hp lk o mf wf q).set 68 (.inl (0, 48, .inl f)) = hp lk o mf wf (q.1, q.2.1, q.2.2.1, q.2.2.2.1, f, q.2.2.2.2.2.1, q.2.2.2.2.2.2.1, q.2.2.2.2.2.2.2.1, q.2.2.2.2.2.2.2.2.1, q.2.2.2.2.2.2.2.2.2.1, q.2.2.2.2.2.2.2.2.2.2.1, q.2.2.2.2.2.2.2.2.2.2.2.1, q.2.2.2.2.2.2.2.2.2.2.2.2.1, q.2.2.2.2.2.2.2.2.2.2.2.2.2.1, q.2.2.2.2.2.2.2.2.2.2.2.2.2.2) := rfl
theorem hs_tp : (hp lk o mf wf q).set 69 (.inl (0, 120, .inl f)) = hp lk o mf wf (q.1, q.2.1, q.2.2.1, q.2.2.2.1, q.2.2.2.2.1, f, q.2.2.2.2.2.2.1, q.2.2.2.2.2.2.2.1, q.2.2.2.2.2.2.2.2.1, q.2.2.2.2.2.2.2.2.2.1, q.2.2.2.2.2.2.2.2.2.2.1, q.2.2.2.2.2.2.2.2.2.2.2.1, q.2.2.2.2.2.2.2.2.2.2.2.2.1, q.2.2.2.2.2.2.2.2.2.2.2.2.2.1, q.2.2.2.2.2.2.2.2.2.2.2.2.2.2) := rfl
theorem hs_bo : (hp lk o mf wf q).set 70 (.inl (0, 4, .inl f)) = hp lk o mf wf (q.1, q.2.1, q.2.2.1, q.2.2.2.1, q.2.2.2.2.1, q.2.2.2.2.2.1, q.2.2.2.2.2.2.1, q.2.2.2.2.2.2.2.1, q.2.2.2.2.2.2.2.2.1, q.2.2.2.2.2.2.2.2.2.1, q.2.2.2.2.2.2.2.2.2.2.1, q.2.2.2.2.2.2.2.2.2.2.2.1, f, q.2.2.2.2.2.2.2.2.2.2.2.2.2.1, q.2.2.2.2.2.2.2.2.2.2.2.2.2.2) := rfl
theorem hs_so : (hp lk o mf wf q).set 71 (.inl (0, 4, .inl f)) = hp lk o mf wf (q.1, q.2.1, q.2.2.1, q.2.2.2.1, q.2.2.2.2.1, q.2.2.2.2.2.1, q.2.2.2.2.2.2.1, q.2.2.2.2.2.2.2.1, q.2.2.2.2.2.2.2.2.1, q.2.2.2.2.2.2.2.2.2.1, q.2.2.2.2.2.2.2.2.2.2.1, q.2.2.2.2.2.2.2.2.2.2.2.1, q.2.2.2.2.2.2.2.2.2.2.2.2.1, f, q.2.2.2.2.2.2.2.2.2.2.2.2.2.2) := rfl
theorem hs_ce {g : Nat → Int64} : (hp lk o mf wf q).set 72 (.inl (1, 160, .inr (.inl g))) = hp lk o mf wf (q.1, q.2.1, q.2.2.1, q.2.2.2.1, q.2.2.2.2.1, q.2.2.2.2.2.1, q.2.2.2.2.2.2.1, q.2.2.2.2.2.2.2.1, q.2.2.2.2.2.2.2.2.1, q.2.2.2.2.2.2.2.2.2.1, q.2.2.2.2.2.2.2.2.2.2.1, q.2.2.2.2.2.2.2.2.2.2.2.1, q.2.2.2.2.2.2.2.2.2.2.2.2.1, q.2.2.2.2.2.2.2.2.2.2.2.2.2.1, g) := rfl
theorem hs_sb (hs : s < 4) : (hp lk o mf wf q).set (53 + 2 * s) (.inr (2, (sfs o.2.2.2.2.2.2.2.2.1 o.2.2.2.2.2.2.2.2.2.1 s).set 0 (.int x))) = hp lk (o.1, o.2.1, o.2.2.1, o.2.2.2.1, o.2.2.2.2.1, o.2.2.2.2.2.1, o.2.2.2.2.2.2.1, o.2.2.2.2.2.2.2.1, upd o.2.2.2.2.2.2.2.2.1 s x, o.2.2.2.2.2.2.2.2.2.1, o.2.2.2.2.2.2.2.2.2.2) mf wf q := by
  rcases lt4 hs with rfl | rfl | rfl | rfl <;> rfl
theorem hs_ss (hs : s < 4) : (hp lk o mf wf q).set (53 + 2 * s) (.inr (2, (sfs o.2.2.2.2.2.2.2.2.1 o.2.2.2.2.2.2.2.2.2.1 s).set 1 (.int x))) = hp lk (o.1, o.2.1, o.2.2.1, o.2.2.2.1, o.2.2.2.2.1, o.2.2.2.2.2.1, o.2.2.2.2.2.2.1, o.2.2.2.2.2.2.2.1, o.2.2.2.2.2.2.2.2.1, upd o.2.2.2.2.2.2.2.2.2.1 s x, o.2.2.2.2.2.2.2.2.2.2) mf wf q := by
  rcases lt4 hs with rfl | rfl | rfl | rfl <;> rfl
theorem hs_sn {g : Nat → Int64} (hs : s < 4) : (hp lk o mf wf q).set (54 + 2 * s) (.inl (1, 40, .inr (.inl g))) = hp lk (o.1, o.2.1, o.2.2.1, o.2.2.2.1, o.2.2.2.2.1, o.2.2.2.2.2.1, o.2.2.2.2.2.2.1, o.2.2.2.2.2.2.2.1, o.2.2.2.2.2.2.2.2.1, o.2.2.2.2.2.2.2.2.2.1, va_up o.2.2.2.2.2.2.2.2.2.2 s g) mf wf q := by
  rcases lt4 hs with rfl | rfl | rfl | rfl <;> rfl
theorem hs_lk (hL : L < 3) (hc : c < 5) : (hp (va_up lk L f) o mf wf q).set (1 + 16 * L) (.inr (1, (lfs f L).set c (.int x))) = hp (va_up lk L (upd f c x)) o mf wf q := by
  rcases lt3 hL with rfl | rfl | rfl <;> rcases lt5 hc with rfl | rfl | rfl | rfl | rfl <;> rfl
theorem hs_t (hL : L < 3) (hi : i < 8) (hc : c < 5) : (hp (va_up lk L f) o mf wf q).set (3 + 16 * L + i) (.inr (5, (tfs f i).set c (.int x))) = hp (va_up lk L (upd f (5 + 5 * i + c) x)) o mf wf q := by
  rcases lt5 hc with rfl | rfl | rfl | rfl | rfl <;> rcases lt3 hL with rfl | rfl | rfl <;> rcases lt8 hi with rfl | rfl | rfl | rfl | rfl | rfl | rfl | rfl <;> rfl
theorem hs_b (hL : L < 3) (hj : j < 5) (hc : c < 4) : (hp (va_up lk L f) o mf wf q).set (12 + 16 * L + j) (.inr (0, (bfs f j).set c (.int x))) = hp (va_up lk L (upd f (45 + 4 * j + c) x)) o mf wf q := by
  rcases lt4 hc with rfl | rfl | rfl | rfl <;> rcases lt3 hL with rfl | rfl | rfl <;> rcases lt5 hj with rfl | rfl | rfl | rfl | rfl <;> rfl
end HP
