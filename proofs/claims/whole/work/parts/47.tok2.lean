/-! the reference's words for tokens -/
def qX (q : xQ) (t : Tk) (x : Int32) : xQ := qD (qK q t) x
def bdO (x : Int32) : Int32 := if x = 0 then 1 else 0
theorem ty1_1 {x : Int32} : (97 ≤ x ∧ x ≤ 122) ↔ ty1 x = 1 := by
  unfold ty1
  constructor
  · intro h; rw [if_pos h]
  · intro h; (repeat' split at h) <;> first | assumption | omega
theorem not_rng {x a b c e : Int32} (h : a ≤ x ∧ x ≤ b) (h2 : c ≤ x ∧ x ≤ e) (hd : b < c ∨ e < a) : False := by
  simp only [Int32.le_iff_toInt_le, Int32.lt_iff_toInt_lt] at *
  omega
theorem ty1_2 {x : Int32} : (48 ≤ x ∧ x ≤ 57) ↔ ty1 x = 2 := by
  unfold ty1
  constructor
  · intro h; rw [if_neg (fun z => not_rng h z (Or.inl (by decide))), if_pos h]
  · intro h; (repeat' split at h) <;> first | assumption | omega
theorem ty1_3 {x : Int32} : (59 ≤ x ∧ x ≤ 59) ↔ ty1 x = 3 := by
  have e : (59 ≤ x ∧ x ≤ 59) ↔ x = 59 := by
    simp only [Int32.le_iff_toInt_le, ← Int32.toInt_inj]
    omega
  rw [e]
  unfold ty1
  constructor
  · intro h; subst h; decide
  · intro h; (repeat' split at h) <;> first | assumption | omega
theorem ty1_4 {x : Int32} : (32 ≤ x ∧ x ≤ 32) ↔ ty1 x = 4 := by
  have e : (32 ≤ x ∧ x ≤ 32) ↔ x = 32 := by
    simp only [Int32.le_iff_toInt_le, ← Int32.toInt_inj]
    omega
  rw [e]
  unfold ty1
  constructor
  · intro h; subst h; decide
  · intro h; (repeat' split at h) <;> first | assumption | omega
theorem xnm_1 : ∀ w, w < 16 → ∀ i, i < xln.getD w 0 → xnm.getD (7 * w + i) 0 = (xby.getD w []).getD i 0 ∧ ¬ xnm.getD (7 * w + i) 0 = 0 := by decide
theorem xnm_0 : ∀ w, w < 16 → ∀ i, i < 7 → xln.getD w 0 ≤ i → xnm.getD (7 * w + i) 0 = 0 := by decide
abbrev nmP (b : Nat → Int32) (s w : Nat) : Nat → Prop := fun i => xnm.getD (7 * w + i) 0 = b (s + i)
theorem nm_iff {b : Nat → Int32} {s e w v : Nat} (hw : w < 16) (hl : ∀ i, s ≤ i → i < e → ty1 (b i) = 1) : (e - s ≤ 7 ∧ (e - s = 7 ∨ xnm.getD (7 * w + (e - s)) 0 = 0) ∧ al (nmP b s w) (e - s) 0 = 1) ↔ wrd b (1, s, e, v) w := by
  have h7 := ln_ok w hw
  show _ ↔ ((1 : Nat) = 1 ∧ e - s = xln.getD w 0 ∧ al (fun i => b (s + i) = (xby.getD w []).getD i 0) (xln.getD w 0) 0 = 1)
  constructor
  · rintro ⟨h1, h2, h3⟩
    have h3' := (al_1 _ _).mp h3
    have hlen : e - s = xln.getD w 0 := by
      rcases Nat.lt_trichotomy (e - s) (xln.getD w 0) with q | q | q
      · have := (xnm_1 w hw (e - s) q).2
        rcases h2 with z | z
        · omega
        · exact absurd z this
      · exact q
      · have z := h3' (xln.getD w 0) (by omega) (by omega)
        have z0 := xnm_0 w hw (xln.getD w 0) (by omega) (Nat.le_refl _)
        have zl := hl (s + xln.getD w 0) (by omega) (by omega)
        have z' : b (s + xln.getD w 0) = 0 := by rw [← z0]; exact z.symm
        rw [z'] at zl
        exact absurd zl (by decide)
    refine ⟨rfl, hlen, (al_1 _ _).mpr (fun i i1 i2 => ?_)⟩
    have z := h3' i i1 (by omega)
    exact z.symm.trans (xnm_1 w hw i (by omega)).1
  · rintro ⟨-, h2, h3⟩
    have h3' := (al_1 _ _).mp h3
    refine ⟨by omega, ?_, (al_1 _ _).mpr (fun i i1 i2 => ?_)⟩
    · by_cases q : e - s = 7
      · exact Or.inl q
      · exact Or.inr (xnm_0 w hw (e - s) (by omega) (by omega))
    · exact (xnm_1 w hw i (by omega)).1.trans (h3' i i1 (by omega)).symm
theorem rp_bits {x y : Int32} : (x &&& (y ^^^ (-1))) ||| y = x ||| y := by
  rw [← Int32.toBitVec_inj]
  apply BitVec.eq_of_getLsbD_eq
  intro i hi
  simp only [Int32.toBitVec_or, Int32.toBitVec_and, Int32.toBitVec_xor, BitVec.getLsbD_or, BitVec.getLsbD_and, BitVec.getLsbD_xor]
  have e : (-1 : Int32).toBitVec.getLsbD i = true := by
    have : (-1 : Int32).toBitVec = BitVec.allOnes 32 := by decide
    rw [this, BitVec.getLsbD_allOnes]; simpa using hi
  rw [e]
  cases x.toBitVec.getLsbD i <;> cases y.toBitVec.getLsbD i <;> rfl
theorem sh0 {c : Int32} : (0 : Int32) <<< (c &&& 31) = 0 := by
  rw [← Int32.toBitVec_inj]
  apply BitVec.eq_of_getLsbD_eq
  intro i hi
  simp [Int32.toBitVec_shiftLeft]
theorem rp_on {x c : Int32} : (x &&& (((1 : Int32) <<< (c &&& 31)) ^^^ (-1))) ||| ((1 : Int32) <<< (c &&& 31)) = rpO 1 x c := rp_bits
theorem rp_off {x c : Int32} : (x &&& (((1 : Int32) <<< (c &&& 31)) ^^^ (-1))) ||| ((0 : Int32) <<< (c &&& 31)) = rpO 0 x c := by rw [sh0, Int32.or_zero]; rfl
def r_lake (q : xQ) (L : Nat) (f : Nat → Int32) : Value × xQ × (Nat → Int32) := (.int (rdA q.2.2.2.2.2.1 L 120 1 (tok q.2.2.2.2.2.1 L 0) f).1, qT (qX q (rdA q.2.2.2.2.2.1 L 120 1 (tok q.2.2.2.2.2.1 L 0) f).2.2 (if (rdA q.2.2.2.2.2.1 L 120 1 (tok q.2.2.2.2.2.1 L 0) f).1 < 0 then 1 else 0)) 0 q.2.2.2.2.2.1, if (rdA q.2.2.2.2.2.1 L 120 1 (tok q.2.2.2.2.2.1 L 0) f).1 < 0 then f else (rdA q.2.2.2.2.2.1 L 120 1 (tok q.2.2.2.2.2.1 L 0) f).2.1)
