/-! what is on, what is best -/
/-- what a boat, all boats are worth -/
def wo (f : Nat → Int32) (b : Nat) : Int32 := f (45 + 4 * b + 3) + f (45 + 4 * b + 2)
def woA (f : Nat → Int32) : Int32 := sumI (sB f 3) (nB f) + sumI (sB f 2) (nB f)
/-- the first t, of k from t on, with P -/
def srch (P : Nat → Prop) [DecidablePred P] : Nat → Nat → Option Nat
  | 0, _ => none
  | k + 1, t => if P t then some t else srch P k (t + 1)
def orN (f : Nat → Int32) : Option Nat → SP
  | none => (-1000000004, some 3, f)
  | some n => (nI n, none, f)
/-- the most, and the first that has it -/
def amx (G : Nat → Int32) (m b : Int32) : Nat → Int32 × Int32
  | 0 => (m, b)
  | n + 1 => if (amx G m b n).1 < G n then (G n, nI n) else amx G m b n
def amn (G : Nat → Int32) (m b : Int32) : Nat → Int32 × Int32
  | 0 => (m, b)
  | n + 1 => if G n < (amn G m b n).1 then (G n, nI n) else amn G m b n
def Gs (f : Nat → Int32) (b n k c : Nat) : Int32 := wo (hsC n (upd f k (nI c))) b
def Ga (f : Nat → Int32) (n k c : Nat) : Int32 := woA (hsC n (upd f k (nI c)))
def Gl (f : Nat → Int32) (b n t : Nat) : Int32 := wo (hsC n (upd f (5 + 5 * t + 3) 0)) b
def Gh (f : Nat → Int32) (c : Int32) (h : Nat) : Int32 := glC (upd f 0 (nI h)) c
def sp_on (f g : Nat → Int32) (b n w : Int32) : SP := if (0 ≤ b ∧ b < f 4) ∧ (0 ≤ n ∧ n ≤ 72) ∧ (0 ≤ w ∧ w ≤ 1) then (if w = 0 then g (45 + 4 * ix b + 2) else g (45 + 4 * ix b + 3), none, f) else (-1000000001, some 0, f)
def sp_light (f g : Nat → Int32) (t n : Int32) : SP := if (0 ≤ t ∧ t < f 3) ∧ (0 ≤ n ∧ n ≤ 72) then (g (5 + 5 * ix t + 3), none, f) else (-1000000001, some 0, f)
def sp_full (f : Nat → Int32) (r : Option Nat) (b v : Int32) : SP := if (0 ≤ b ∧ b < f 4) ∧ (1 ≤ v ∧ v ≤ 999) then orN f r else (-1000000001, some 0, f)
def sp_dark (f : Nat → Int32) (r : Option Nat) (t : Int32) : SP := if 0 ≤ t ∧ t < f 3 then orN f r else (-1000000001, some 0, f)
def orM (f : Nat → Int32) (r : Int32) : SP := if r < 0 then (-1000000004, some 3, f) else (r, none, f)
def sp_best (f : Nat → Int32) (r b n hi : Int32) : SP := if (0 ≤ b ∧ b < hi) ∧ (1 ≤ n ∧ n ≤ 24) then (r, none, f) else (-1000000001, some 0, f)
def sp_gives (f : Nat → Int32) (r b n : Int32) : SP := if (0 ≤ b ∧ b < f 4) ∧ (1 ≤ n ∧ n ≤ 24) then orM f r else (-1000000001, some 0, f)
def sp_time (f : Nat → Int32) (r c : Int32) : SP := if 0 ≤ c ∧ c ≤ 47 then (r, none, f) else (-1000000001, some 0, f)
def sp_rival (f : Nat → Int32) (r b b' n : Int32) : SP := if ((0 ≤ b ∧ b < f 4) ∧ (0 ≤ b' ∧ b' < f 4) ∧ ¬ b = b') ∧ (1 ≤ n ∧ n ≤ 24) then (r, none, f) else (-1000000001, some 0, f)
section
variable {f g h : Nat → Int32} {t j n k i : Nat} {c x y : Int32}
theorem hsL_b (okp : okP f) (e : lvE f g) (hj : j < nB f) {w : Nat} (hw : w < 4) : hsC n g (45 + 4 * j + w) = hsC n f (45 + 4 * j + w) := by
  have h2 := hsC_TB (n := n) okp.h8
  exact hsC_lv e okp.h8 _ (by rw [h2.1, h2.2]; omega)
theorem hsL_t (okp : okP f) (e : lvE f g) (ht : t < nT f) {w : Nat} (hw : w < 5) : hsC n g (5 + 5 * t + w) = hsC n f (5 + 5 * t + w) := by
  have h2 := hsC_TB (n := n) okp.h8
  exact hsC_lv e okp.h8 _ (by rw [h2.1, h2.2]; omega)
theorem wo_hs (okp : okP f) (e : lvE f g) (hj : j < nB f) : hsC n g (45 + 4 * j + 3) + hsC n g (45 + 4 * j + 2) = wo (hsC n f) j := by
  unfold wo; rw [hsL_b okp e hj (by decide), hsL_b okp e hj (by decide)]
theorem woA_hs (okp : okP f) (e : lvE f g) : sumI (sB (hsC n g) 3) (nB (hsC n g)) + sumI (sB (hsC n g) 2) (nB (hsC n g)) = woA (hsC n f) := by
  unfold woA
  have e' := hsC_lv (n := n) e okp.h8
  rw [ssB_lv e' (by decide), ssB_lv e' (by decide)]
theorem upd_upd : upd (upd f k x) k y = upd f k y := by
  funext i
  by_cases q : i = k
  · rw [q, pk_us, pk_us]
  · rw [pk_un q, pk_un q, pk_un q]
theorem upd_id : upd f k (f k) = f := by
  funext i
  by_cases q : i = k
  · rw [q, pk_us]
  · rw [pk_un q]
theorem eq65_cp {w : Nat → Int32} : eq65 f (cpF 65 (cpF 65 f w) g) := fun k hk => by unfold cpF; rw [if_pos hk, if_pos hk]
theorem eq65.lv (e : eq65 f g) (ok : okN f) : lvE f g := by
  have h8 := ok.2.1
  have h5 := ok.2.2.2
  intro k hk
  exact (e k (by omega)).symm
end
section
variable {f g h : Nat → Int32} {t j n k i : Nat} {c x y : Int32}
theorem wo_hsu (okp : okP (upd f k x)) (e : lvE f g) (h3 : k ≠ 3) (h4 : k ≠ 4) (hj : j < nB f) : hsC n (upd g k x) (45 + 4 * j + 3) + hsC n (upd g k x) (45 + 4 * j + 2) = wo (hsC n (upd f k x)) j :=
  wo_hs okp (e.u h3 h4) (by rw [nB_of (f := f) (pk_un (Ne.symm h4))]; exact hj)
theorem woA_hsu (okp : okP (upd f k x)) (e : lvE f g) (h3 : k ≠ 3) (h4 : k ≠ 4) : sumI (sB (hsC n (upd g k x)) 3) (nB (hsC n (upd g k x))) + sumI (sB (hsC n (upd g k x)) 2) (nB (hsC n (upd g k x))) = woA (hsC n (upd f k x)) := woA_hs okp (e.u h3 h4)
theorem rg_of {m : Nat} (h : t ≤ m) (hm : m < 2 ^ 31) : 0 ≤ nI t ∧ nI t ≤ nI m := ⟨nI_pos' (by omega), nI_le h hm⟩
end
section
variable {f g w h : Nat → Int32} {t j n k i : Nat} {c x y : Int32}
/-- as the reference weighs: the first is taken as it is -/
def amB (G : Nat → Int32) : Nat → Int32 × Int32
  | 0 => (0, 0)
  | n + 1 => if n = 0 then (G 0, 0) else if (amB G n).1 < G n then (G n, nI n) else amB G n
theorem min_le (x : Int32) : (-2147483648 : Int32) ≤ x := by
  rw [Int32.le_iff_toInt_le]
  have := Int32.minValue_le_toInt x
  have e : (-2147483648 : Int32).toInt = -2147483648 := by decide
  rw [e]; exact this
theorem amB_amx {G : Nat → Int32} : ∀ n, 0 < n → amB G n = amx G (-2147483648) 0 n := by
  intro n
  induction n with
  | zero => intro h; omega
  | succ n ih =>
    intro _
    cases n with
    | zero =>
      show (G 0, (0 : Int32)) = if (-2147483648 : Int32) < G 0 then (G 0, nI 0) else (-2147483648, 0)
      by_cases q : (-2147483648 : Int32) < G 0
      · rw [if_pos q]; rfl
      · rw [if_neg q]
        have e : G 0 = -2147483648 := by
          have h1 := min_le (G 0)
          rw [Int32.not_lt, Int32.le_iff_toInt_le] at q
          rw [Int32.le_iff_toInt_le] at h1
          rw [← Int32.toInt_inj]; omega
        rw [e]
    | succ n => rw [amB, if_neg (by omega), amx, ih (by omega)]
def bbS (w : Nat → Int32) (n k t : Nat) (g : Nat → Int32) : Nat → Int32 := cpF 65 w (hsC n (upd g k (nI t)))
def bgS (w : Nat → Int32) (n t : Nat) (g : Nat → Int32) : Nat → Int32 := cpF 65 w (hsC n (upd g (5 + 5 * t + 3) 0))
theorem eq65_pb (e : eq65 f w) : eq65 f (cpF 65 w g) := fun k hk => by unfold cpF; rw [if_pos hk]; exact e k hk
theorem eq65_th : eq65 f (cpF 65 f w) := fun k hk => by unfold cpF; rw [if_pos hk]
theorem bbS_e (ew : eq65 f w) : ∀ t, eq65 f (itF (bbS w n k) t f) := by
  intro t
  cases t with
  | zero => exact eq65.rf
  | succ t => exact eq65_pb ew
theorem bgS_e (ew : eq65 f w) (e : eq65 f g) : ∀ t, eq65 f (itF (bgS w n) t g) := by
  intro t
  cases t with
  | zero => exact e
  | succ t => exact eq65_pb ew
def tmS (t : Nat) (g : Nat → Int32) : Nat → Int32 := upd g 0 (nI t)
theorem tmS_e : ∀ t, upd (itF tmS t f) 0 x = upd f 0 x := by
  intro t
  induction t with
  | zero => rfl
  | succ t ih => rw [itF, tmS, upd_upd]; exact ih
theorem woU (okx : okP (upd f k x)) (e : eq65 f g) (ok : okN f) (h3 : k ≠ 3) (h4 : k ≠ 4) (hj : j < nB f) : wo (hsC n (upd g k x)) j = wo (hsC n (upd f k x)) j := wo_hsu okx (e.lv ok) h3 h4 hj
theorem woAU (okx : okP (upd f k x)) (e : eq65 f g) (ok : okN f) (h3 : k ≠ 3) (h4 : k ≠ 4) : woA (hsC n (upd g k x)) = woA (hsC n (upd f k x)) := woA_hsu okx (e.lv ok) h3 h4
theorem eq65.okU (e : eq65 f g) (ok : okN f) (okx : okP (upd f k x)) (h3 : k ≠ 3) (h4 : k ≠ 4) : okP (upd g k x) := ((e.lv ok).u h3 h4).okP okx
theorem orM_e : orM f x = (if x < 0 then -1000000004 else x, if x < 0 then some 3 else none, f) := by
  unfold orM; split <;> rfl
end
theorem le0_of {x : Int32} (h : 0 ≤ x) (h2 : x ≤ 0) : x = 0 := by
  rw [Int32.le_iff_toInt_le] at h h2
  rw [← Int32.toInt_inj]; omega
