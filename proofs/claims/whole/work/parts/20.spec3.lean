/-! the class's words -/
def ernC (f : Nat → Int32) (b : Nat) (c : Int32) : Nat → Int32 := upd f (45 + 4 * b + 3) (mx2 (-99999) (mn2 99999 (f (45 + 4 * b + 3) + c)))
def gC (f : Nat → Int32) (c : Int32) (t : Nat) : Int32 := if mirC f t c then shn (f (5 + 5 * t)) (f (5 + 5 * t + 3)) (c / 8) else 0
def glC (f : Nat → Int32) (c : Int32) : Int32 := if f 2 = 1 then 0 else if rip f c then sumI (gC f c) (nT f) / 3 else sumI (gC f c) (nT f)
def oC (f : Nat → Int32) (c : Int32) (t : Nat) : Int32 := if mirC f t c then 1 <<< (nI t &&& 31) else 0
def tC (f : Nat → Int32) (c : Int32) (t : Nat) : Int32 := if mirC f t c then txd (f (5 + 5 * t)) (f (5 + 5 * t + 4)) else 0
def tkC (f : Nat → Int32) (b : Nat) : Int32 := mn2 (glC f (f (45 + 4 * b))) (mn2 (f (45 + 4 * b + 1)) (999 - f (45 + 4 * b + 2)))
def dm1 (t : Nat) (f : Nat → Int32) : Nat → Int32 := upd f (5 + 5 * t + 3) (mx2 (f (5 + 5 * t + 3) - 1) 0)
def dimC (c : Int32) (t : Nat) (f : Nat → Int32) : Nat → Int32 := if mirC f t c then dm1 t f else f
def hldC (b : Nat) (f : Nat → Int32) : Nat → Int32 := upd f (45 + 4 * b + 2) (f (45 + 4 * b + 2) + tkC f b)
def tpC (b : Nat) (f : Nat → Int32) : Nat → Int32 := ernC (hldC b f) b (-(sumI (tC (hldC b f) (f (45 + 4 * b))) (nT (hldC b f))))
def takC (b : Nat) (f : Nat → Int32) : Nat → Int32 := if 0 < tkC f b then itF (dimC (f (45 + 4 * b))) (nT (tpC b f)) (tpC b f) else f
def slC (b : Nat) (f : Nat → Int32) : Nat → Int32 := upd (ernC f b (f (45 + 4 * b + 2))) (45 + 4 * b + 2) 0
def brC (t : Nat) (f : Nat → Int32) : Nat → Int32 := upd f (5 + 5 * t + 3) (mn2 (f (5 + 5 * t + 3) + 1) 99)
def h1C (f : Nat → Int32) : Nat → Int32 := itF takC (nB f) f
def h2C (f : Nat → Int32) : Nat → Int32 := if md (f 0) 24 = 20 then itF slC (nB f) f else f
def h3C (f : Nat → Int32) : Nat → Int32 := if md (f 0) 4 = 3 then itF brC (nT f) f else f
def hrC (f : Nat → Int32) : Nat → Int32 := h4R (h3C (h2C (h1C f)))
def hsC (n : Nat) (f : Nat → Int32) : Nat → Int32 := itF (fun _ => hrC) n f
/-- a thing, a boat is written whole -/
def uT (f : Nat → Int32) (i : Nat) (a b c d e : Int32) : Nat → Int32 := upd (upd (upd (upd (upd f (5 + 5 * i + 0) a) (5 + 5 * i + 1) b) (5 + 5 * i + 2) c) (5 + 5 * i + 3) d) (5 + 5 * i + 4) e
def uB (f : Nat → Int32) (j : Nat) (a b c d : Int32) : Nat → Int32 := upd (upd (upd (upd f (45 + 4 * j + 0) a) (45 + 4 * j + 1) b) (45 + 4 * j + 2) c) (45 + 4 * j + 3) d
def b5 (g f : Nat → Int32) : Nat → Int32 := upd (upd (upd (upd (upd f 0 (g 0)) 1 (g 1)) 2 (g 2)) 3 (g 3)) 4 (g 4)
def bt (g : Nat → Int32) (i : Nat) (f : Nat → Int32) : Nat → Int32 := uT f i (g (5 + 5 * i)) (g (5 + 5 * i + 1)) (g (5 + 5 * i + 2)) (g (5 + 5 * i + 3)) (g (5 + 5 * i + 4))
def bb (g : Nat → Int32) (j : Nat) (f : Nat → Int32) : Nat → Int32 := uB f j (g (45 + 4 * j)) (g (45 + 4 * j + 1)) (g (45 + 4 * j + 2)) (g (45 + 4 * j + 3))
/-- a lake becomes another -/
def bcF (g f : Nat → Int32) : Nat → Int32 := itF (bb g) (nB g) (itF (bt g) (nT g) (b5 g f))
theorem dm1_s {t : Nat} (ht : t < 8) (f : Nat → Int32) : sameM f (dm1 t f) := .upd (by omega)
theorem dimC_s {c : Int32} {t : Nat} (ht : t < 8) (f : Nat → Int32) : sameM f (dimC c t f) := by
  unfold dimC; split
  · exact dm1_s ht f
  · exact .rf
theorem ernC_s {b : Nat} {c : Int32} (f : Nat → Int32) : sameM f (ernC f b c) := .upd (by omega)
theorem hldC_s {b : Nat} (f : Nat → Int32) : sameM f (hldC b f) := .upd (by omega)
theorem tpC_s {b : Nat} (f : Nat → Int32) : sameM f (tpC b f) := (hldC_s f).tr (ernC_s _)
theorem takC_s {b : Nat} (f : Nat → Int32) (h8 : nT f ≤ 8) : sameM f (takC b f) := by
  unfold takC; split
  · exact (tpC_s f).tr (.it _ _ (fun t ht g => dimC_s (by rw [nT_of (tpC_s f).2.1] at ht; omega) g))
  · exact .rf
theorem slC_s {b : Nat} (f : Nat → Int32) : sameM f (slC b f) := (ernC_s f).tr (.upd (by omega))
theorem brC_s {t : Nat} (ht : t < 8) (f : Nat → Int32) : sameM f (brC t f) := .upd (by omega)
theorem itkC_s {f : Nat → Int32} (h8 : nT f ≤ 8) : ∀ n, sameM f (itF takC n f) := by
  intro n
  induction n with
  | zero => exact .rf
  | succ n ih => rw [itF]; exact ih.tr (takC_s _ (by rw [nT_of ih.2.1]; exact h8))
theorem h1C_s {f : Nat → Int32} (h8 : nT f ≤ 8) : sameM f (h1C f) := itkC_s h8 _
theorem h2C_s (f : Nat → Int32) : sameM f (h2C f) := by
  unfold h2C; split
  · exact .it _ _ (fun _ _ g => slC_s g)
  · exact .rf
theorem h3C_s {f : Nat → Int32} (h8 : nT f ≤ 8) : sameM f (h3C f) := by
  unfold h3C; split
  · exact .it _ _ (fun t ht g => brC_s (by omega) g)
  · exact .rf
theorem hrC_k {f : Nat → Int32} (h8 : nT f ≤ 8) : hrC f 3 = f 3 ∧ hrC f 4 = f 4 ∧ ∀ j, j < 5 → hrC f (45 + 4 * j) = f (45 + 4 * j) := by
  have s1 := h1C_s h8
  have s2 := s1.tr (h2C_s _)
  have s3 := s2.tr (h3C_s (f := h2C (h1C f)) (by rw [nT_of s2.2.1]; exact h8))
  have u : ∀ k : Nat, k ≠ 0 → hrC f k = h3C (h2C (h1C f)) k := fun k hk => by unfold hrC h4R; exact pk_un hk
  exact ⟨(u 3 (by omega)).trans s3.2.1, (u 4 (by omega)).trans s3.2.2.1, fun j hj => (u _ (by omega)).trans (s3.2.2.2 j hj)⟩
theorem hrC_ok {f : Nat → Int32} (ok : okM f) : okM (hrC f) := by
  obtain ⟨k3, k4, kj⟩ := hrC_k ok.1.2.1
  refine ⟨ok.1.of k3 k4, fun j hj => ?_⟩
  rw [nB_of k4] at hj
  have h5 := ok.1.2.2.2
  rw [kj j (by omega)]
  exact ok.2 j hj
theorem hsC_ok {f : Nat → Int32} (ok : okM f) : ∀ n, okM (hsC n f) := by
  intro n
  induction n with
  | zero => exact ok
  | succ n ih => exact hrC_ok ih
theorem row0 {c : Int32} (h : 0 ≤ c ∧ c ≤ 47) : ¬ c / 8 < 0 := by
  obtain ⟨m, hm, rfl⟩ := cell_n h
  rw [show (8 : Int32) = nI 8 from rfl, pk_div (by omega) (by decide) (by decide)]
  exact nI_pos (by omega)
section HPO
variable {lk : Nat → Nat → Int32} {o : xO} {mf wf : Nat → Int32} {q : xQ} {f : Nat → Int32} {L K i j : Nat}
theorem hp_lakeO (hL : L < 3) (hK : K < 3) (hne : K ≠ L) : (hp (va_up lk L f) o mf wf q)[1 + 16 * K]? = some (.inr (1, lfs (lk K) K)) := by
  rcases lt3 hL with rfl | rfl | rfl <;> rcases lt3 hK with rfl | rfl | rfl <;> first | rfl | exact absurd rfl hne
theorem hp_tarrO (hL : L < 3) (hK : K < 3) (hne : K ≠ L) : (hp (va_up lk L f) o mf wf q)[2 + 16 * K]? = some (.inl (3, 8, .inr (.inr (.inr (.inr (trf K)))))) := by
  rcases lt3 hL with rfl | rfl | rfl <;> rcases lt3 hK with rfl | rfl | rfl <;> first | rfl | exact absurd rfl hne
theorem hp_barrO (hL : L < 3) (hK : K < 3) (hne : K ≠ L) : (hp (va_up lk L f) o mf wf q)[11 + 16 * K]? = some (.inl (4, 5, .inr (.inr (.inr (.inr (brf K)))))) := by
  rcases lt3 hL with rfl | rfl | rfl <;> rcases lt3 hK with rfl | rfl | rfl <;> first | rfl | exact absurd rfl hne
theorem hp_thingO (hL : L < 3) (hK : K < 3) (hne : K ≠ L) (hi : i < 8) : (hp (va_up lk L f) o mf wf q)[3 + 16 * K + i]? = some (.inr (5, tfs (lk K) i)) := by
  rcases lt3 hL with rfl | rfl | rfl <;> rcases lt3 hK with rfl | rfl | rfl <;> first | exact absurd rfl hne | (rcases lt8 hi with rfl | rfl | rfl | rfl | rfl | rfl | rfl | rfl <;> rfl)
theorem hp_boatO (hL : L < 3) (hK : K < 3) (hne : K ≠ L) (hj : j < 5) : (hp (va_up lk L f) o mf wf q)[12 + 16 * K + j]? = some (.inr (0, bfs (lk K) j)) := by
  rcases lt3 hL with rfl | rfl | rfl <;> rcases lt3 hK with rfl | rfl | rfl <;> first | exact absurd rfl hne | (rcases lt5 hj with rfl | rfl | rfl | rfl | rfl <;> rfl)
end HPO
/-- a thing of kind k is of kind a, or under it -/
abbrev kof (k a : Int32) : Prop := k = a ∨ (k = 4 ∧ 1 = a) ∨ (k = 5 ∧ 2 = a) ∨ (0 = a)
def lA (f : Nat → Int32) (t : Nat) : Int32 := f (5 + 5 * t + 3)
def dA (f : Nat → Int32) (t : Nat) : Int32 := if f (5 + 5 * t + 3) = 0 then 1 <<< (nI t &&& 31) else 0
def gAC (f : Nat → Int32) (c : Nat) : Int32 := glC f (nI c)
theorem cell_of {c : Nat} (h : c < 48) : 0 ≤ nI c ∧ nI c ≤ 47 := ⟨nI_pos' (by omega), nI_le (b := 47) (by omega) (by omega)⟩
theorem uT_o {f : Nat → Int32} {i k : Nat} {a b c e g : Int32} (h : k < 5 + 5 * i ∨ 5 + 5 * i + 5 ≤ k) : uT f i a b c e g k = f k := by
  unfold uT
  rw [pk_un (by omega), pk_un (by omega), pk_un (by omega), pk_un (by omega), pk_un (by omega)]
theorem uB_o {f : Nat → Int32} {j k : Nat} {a b c e : Int32} (h : k < 45 + 4 * j ∨ 45 + 4 * j + 4 ≤ k) : uB f j a b c e k = f k := by
  unfold uB
  rw [pk_un (by omega), pk_un (by omega), pk_un (by omega), pk_un (by omega)]
theorem uT_3 {f : Nat → Int32} {i : Nat} {a b c e g : Int32} : uT f i a b c e g 3 = f 3 := uT_o (by omega)
theorem uB_4 {f : Nat → Int32} {j : Nat} {a b c e : Int32} : uB f j a b c e 4 = f 4 := uB_o (by omega)
/-- a new thing, a new boat -/
def aT (f : Nat → Int32) (a b c e g : Int32) : Nat → Int32 := upd (uT f (nT f) a b c e g) 3 (f 3 + 1)
def aB (f : Nat → Int32) (a b : Int32) : Nat → Int32 := upd (uB f (nB f) a b 0 0) 4 (f 4 + 1)
