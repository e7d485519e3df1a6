/-! what is on, what is best -/
/-- what a boat, all boats are worth -/
def wo (f : Nat → Int32) (b : Nat) : Int32 := f (45 + 4 * b + 3) + f (45 + 4 * b + 2)
def woA (f : Nat → Int32) : Int32 := sumI (sB f 3) (nB f) + sumI (sB f 2) (nB f)
/-- the first t, of k from t on, with P -/
def srch (P : Nat → Prop) [DecidablePred P] : Nat → Nat → Option Nat
  | 0, _ => none
  | k + 1, t => if P t then some t else srch P k (t + 1)
def orN (f : Nat → Int32) : Option Nat → SP
  | none => (-1000000004, some 3, f)
  | some n => (nI n, none, f)
/-- the most, and the first that has it -/
def amx (G : Nat → Int32) (m b : Int32) : Nat → Int32 × Int32
  | 0 => (m, b)
  | n + 1 => if (amx G m b n).1 < G n then (G n, nI n) else amx G m b n
def amn (G : Nat → Int32) (m b : Int32) : Nat → Int32 × Int32
  | 0 => (m, b)
  | n + 1 => if G n < (amn G m b n).1 then (G n, nI n) else amn G m b n
def Gs (f : Nat → Int32) (b n k c : Nat) : Int32 := wo (hsC n (upd f k (nI c))) b
def Ga (f : Nat → Int32) (n k c : Nat) : Int32 := woA (hsC n (upd f k (nI c)))
def Gl (f : Nat → Int32) (b n t : Nat) : Int32 := wo (hsC n (upd f (5 + 5 * t + 3) 0)) b
def Gh (f : Nat → Int32) (c : Int32) (h : Nat) : Int32 := glC (upd f 0 (nI h)) c
def sp_on (f g : Nat → Int32) (b n w : Int32) : SP := if (0 ≤ b ∧ b < f 4) ∧ (0 ≤ n ∧ n ≤ 72) ∧ (0 ≤ w ∧ w ≤ 1) then (if w = 0 then g (45 + 4 * ix b + 2) else g (45 + 4 * ix b + 3), none, f) else (-1000000001, some 0, f)
def sp_light (f g : Nat → Int32) (t n : Int32) : SP := if (0 ≤ t ∧ t < f 3) ∧ (0 ≤ n ∧ n ≤ 72) then (g (5 + 5 * ix t + 3), none, f) else (-1000000001, some 0, f)
def sp_full (f : Nat → Int32) (r : Option Nat) (b v : Int32) : SP := if (0 ≤ b ∧ b < f 4) ∧ (1 ≤ v ∧ v ≤ 999) then orN f r else (-1000000001, some 0, f)
def sp_dark (f : Nat → Int32) (r : Option Nat) (t : Int32) : SP := if 0 ≤ t ∧ t < f 3 then orN f r else (-1000000001, some 0, f)
def orM (f : Nat → Int32) (r : Int32) : SP := if r < 0 then (-1000000004, some 3, f) else (r, none, f)
def sp_best (f : Nat → Int32) (r b n hi : Int32) : SP := if (0 ≤ b ∧ b < hi) ∧ (1 ≤ n ∧ n ≤ 24) then (r, none, f) else (-1000000001, some 0, f)
def sp_gives (f : Nat → Int32) (r b n : Int32) : SP := if (0 ≤ b ∧ b < f 4) ∧ (1 ≤ n ∧ n ≤ 24) then orM f r else (-1000000001, some 0, f)
def sp_time (f : Nat → Int32) (r c : Int32) : SP := if 0 ≤ c ∧ c ≤ 47 then (r, none, f) else (-1000000001, some 0, f)
def sp_rival (f : Nat → Int32) (r b b' n : Int32) : SP := if ((0 ≤ b ∧ b < f 4) ∧ (0 ≤ b' ∧ b' < f 4) ∧ ¬ b = b') ∧ (1 ≤ n ∧ n ≤ 24) then (r, none, f) else (-1000000001, some 0, f)
section
variable {f g h : Nat → Int32} {t j n k i : Nat} {c x y : Int32}
theorem hsL_b (okp : okP f) (e : lvE f g) (hj : j < nB f) {w : Nat} (hw : w < 4) : hsC n g (45 + 4 * j + w) = hsC n f (45 + 4 * j + w) := by
  have h2 := hsC_TB (n := n) okp.h8
  exact hsC_lv e okp.h8 _ (by rw [h2.1, h2.2]; omega)
theorem hsL_t (okp : okP f) (e : lvE f g) (ht : t < nT f) {w : Nat} (hw : w < 5) : hsC n g (5 + 5 * t + w) = hsC n f (5 + 5 * t + w) := by
  have h2 := hsC_TB (n := n) okp.h8
  exact hsC_lv e okp.h8 _ (by rw [h2.1, h2.2]; omega)
theorem wo_hs (okp : okP f) (e : lvE f g) (hj : j < nB f) : hsC n g (45 + 4 * j + 3) + hsC n g (45 + 4 * j + 2) = wo (hsC n f) j := by
  unfold wo; rw [hsL_b okp e hj (by decide), hsL_b okp e hj (by decide)]
theorem woA_hs (okp : okP f) (e : lvE f g) : sumI (sB (hsC n g) 3) (nB (hsC n g)) + sumI (sB (hsC n g) 2) (nB (hsC n g)) = woA (hsC n f) := by
  unfold woA
  have e' := hsC_lv (n := n) e okp.h8
  rw [ssB_lv e' (by decide), ssB_lv e' (by decide)]
theorem upd_upd : upd (upd f k x) k y = upd f k y := by
  funext i
  by_cases q : i = k
  · rw [q, pk_us, pk_us]
  · rw [pk_un q, pk_un q, pk_un q]
theorem upd_id : upd f k (f k) = f := by
  funext i
  by_cases q : i = k
  · rw [q, pk_us]
  · rw [pk_un q]
theorem eq65_cp {w : Nat → Int32} : eq65 f (cpF 65 (cpF 65 f w) g) := fun k hk => by unfold cpF; rw [if_pos hk, if_pos hk]
theorem eq65.lv (e : eq65 f g) (ok : okN f) : lvE f g := by
  have h8 := ok.2.1
  have h5 := ok.2.2.2
  intro k hk
  exact (e k (by omega)).symm
end
section
variable {f g h : Nat → Int32} {t j n k i : Nat} {c x y : Int32}
theorem wo_hsu (okp : okP (upd f k x)) (e : lvE f g) (h3 : k ≠ 3) (h4 : k ≠ 4) (hj : j < nB f) : hsC n (upd g k x) (45 + 4 * j + 3) + hsC n (upd g k x) (45 + 4 * j + 2) = wo (hsC n (upd f k x)) j :=
  wo_hs okp (e.u h3 h4) (by rw [nB_of (f := f) (pk_un (Ne.symm h4))]; exact hj)
theorem woA_hsu (okp : okP (upd f k x)) (e : lvE f g) (h3 : k ≠ 3) (h4 : k ≠ 4) : sumI (sB (hsC n (upd g k x)) 3) (nB (hsC n (upd g k x))) + sumI (sB (hsC n (upd g k x)) 2) (nB (hsC n (upd g k x))) = woA (hsC n (upd f k x)) := woA_hs okp (e.u h3 h4)
theorem rg_of {m : Nat} (h : t ≤ m) (hm : m < 2 ^ 31) : 0 ≤ nI t ∧ nI t ≤ nI m := ⟨nI_pos' (by omega), nI_le h hm⟩
end
