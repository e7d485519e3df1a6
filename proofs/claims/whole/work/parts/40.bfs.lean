/-! a way, as the reference goes it: by rings -/
abbrev B01 (g : Nat → Int32) : Prop := ∀ c, c < 48 → g c = 0 ∨ g c = 1
def cnt (g : Nat → Int32) : Nat → Nat
  | 0 => 0
  | n + 1 => cnt g n + (if g n = 1 then 1 else 0)
abbrev isN (f g : Nat → Int32) (c : Nat) : Prop := ¬ rip f (nI c) ∧ g c = 0
def adN (f : Nat → Int32) (c : Nat) (s : (Nat → Int32) × (Nat → Int32) × Nat) : (Nat → Int32) × (Nat → Int32) × Nat := if isN f s.1 c then (upd s.1 c 1, upd s.2.1 s.2.2 (nI c), s.2.2 + 1) else s
def bk1 (f : Nat → Int32) (c : Nat) (s : (Nat → Int32) × (Nat → Int32) × Nat) : (Nat → Int32) × (Nat → Int32) × Nat := if 8 ≤ c then adN f (c - 8) s else s
def bk2 (f : Nat → Int32) (c : Nat) (s : (Nat → Int32) × (Nat → Int32) × Nat) : (Nat → Int32) × (Nat → Int32) × Nat := if c % 8 < 7 then adN f (c + 1) s else s
def bk3 (f : Nat → Int32) (c : Nat) (s : (Nat → Int32) × (Nat → Int32) × Nat) : (Nat → Int32) × (Nat → Int32) × Nat := if c < 40 then adN f (c + 8) s else s
def bk4 (f : Nat → Int32) (c : Nat) (s : (Nat → Int32) × (Nat → Int32) × Nat) : (Nat → Int32) × (Nat → Int32) × Nat := if 0 < c % 8 then adN f (c - 1) s else s
def spr (f : Nat → Int32) (c : Nat) (s : (Nat → Int32) × (Nat → Int32) × Nat) : (Nat → Int32) × (Nat → Int32) × Nat := bk4 f c (bk3 f c (bk2 f c (bk1 f c s)))
theorem cnt_le {g : Nat → Int32} : ∀ n, cnt g n ≤ n := by
  intro n
  induction n with
  | zero => exact Nat.le_refl _
  | succ n ih => rw [cnt]; split <;> omega
theorem cnt_lt {g : Nat → Int32} {c : Nat} (h : g c = 0) : ∀ n, c < n → cnt g n < n := by
  intro n
  induction n with
  | zero => intro q; omega
  | succ n ih =>
    intro q
    rw [cnt]
    by_cases e : c = n
    · subst e
      have := cnt_le (g := g) c
      rw [if_neg (by rw [h]; decide)]; omega
    · have := ih (by omega)
      split <;> omega
theorem cnt_u {g : Nat → Int32} {c : Nat} (h : g c = 0) : ∀ n, cnt (upd g c 1) n = cnt g n + (if c < n then 1 else 0) := by
  intro n
  induction n with
  | zero => rfl
  | succ n ih =>
    rw [cnt, cnt, ih]
    by_cases e : n = c
    · subst e
      rw [pk_us, if_pos rfl, if_neg (Nat.lt_irrefl n), if_pos (Nat.lt_succ_self n), if_neg (show ¬ g n = 1 by rw [h]; decide)]
    · rw [pk_un e]
      by_cases e2 : c < n
      · rw [if_pos e2, if_pos (show c < n + 1 by omega)]; omega
      · rw [if_neg e2, if_neg (show ¬ c < n + 1 by omega)]; omega
/-- what spreads needs and keeps -/
def okE (s : (Nat → Int32) × (Nat → Int32) × Nat) : Prop := B01 s.1 ∧ cnt s.1 48 = s.2.2
theorem okE.lt {s : (Nat → Int32) × (Nat → Int32) × Nat} (h : okE s) {c : Nat} (hc : c < 48) (h0 : s.1 c = 0) : s.2.2 < 48 := by
  rw [← h.2]; exact cnt_lt h0 48 hc
theorem okE.le {s : (Nat → Int32) × (Nat → Int32) × Nat} (h : okE s) : s.2.2 ≤ 48 := by
  rw [← h.2]; exact cnt_le 48
theorem okE.ad {f : Nat → Int32} {s : (Nat → Int32) × (Nat → Int32) × Nat} {c : Nat} (h : okE s) (hc : c < 48) : okE (adN f c s) := by
  unfold adN
  split
  · rename_i q
    refine ⟨fun j hj => ?_, ?_⟩
    · show upd s.1 c 1 j = 0 ∨ upd s.1 c 1 j = 1
      by_cases e : j = c
      · rw [e, pk_us]; exact Or.inr rfl
      · rw [pk_un e]; exact h.1 j hj
    · show cnt (upd s.1 c 1) 48 = s.2.2 + 1
      rw [cnt_u q.2, if_pos hc, h.2]
  · exact h
theorem okE.b1 {f : Nat → Int32} {s : (Nat → Int32) × (Nat → Int32) × Nat} {c : Nat} (h : okE s) (hc : c < 48) : okE (bk1 f c s) := by
  unfold bk1; split
  · exact h.ad (by omega)
  · exact h
theorem okE.b2 {f : Nat → Int32} {s : (Nat → Int32) × (Nat → Int32) × Nat} {c : Nat} (h : okE s) (hc : c < 48) : okE (bk2 f c s) := by
  unfold bk2; split
  · exact h.ad (by omega)
  · exact h
theorem okE.b3 {f : Nat → Int32} {s : (Nat → Int32) × (Nat → Int32) × Nat} {c : Nat} (h : okE s) (hc : c < 48) : okE (bk3 f c s) := by
  unfold bk3; split
  · exact h.ad (by omega)
  · exact h
theorem okE.b4 {f : Nat → Int32} {s : (Nat → Int32) × (Nat → Int32) × Nat} {c : Nat} (h : okE s) (hc : c < 48) : okE (bk4 f c s) := by
  unfold bk4; split
  · exact h.ad (by omega)
  · exact h
/-! cells in reach, and how far -/
def RR (f : Nat → Int32) (a c : Nat) : Prop := ∀ x, min (a % 8) (c % 8) ≤ x → x ≤ max (a % 8) (c % 8) → ¬ rpl f x
def DD (a c : Nat) : Nat := (a % 8 - c % 8) + (c % 8 - a % 8) + ((a / 8 - c / 8) + (c / 8 - a / 8))
def Adj (a c : Nat) : Prop := (8 ≤ a ∧ c = a - 8) ∨ (a % 8 < 7 ∧ c = a + 1) ∨ (a < 40 ∧ c = a + 8) ∨ (0 < a % 8 ∧ c = a - 1)
theorem rip_r {f : Nat → Int32} {c : Nat} (hc : c < 48) : rip f (nI c) ↔ rpl f (c % 8) := by
  unfold rip rpl
  rw [show md (nI c) 8 = nI (c % 8) from rem_n (d := 8) (by omega) (by decide) (by decide)]
theorem RR_calm {f : Nat → Int32} {a c : Nat} (h : RR f a c) : ¬ rpl f (c % 8) := h _ (by omega) (by omega)
theorem RR_adj {f : Nat → Int32} {a c b : Nat} (h : RR f a c) (hc : c < 48) (ha : Adj c b) (hb : ¬ rpl f (b % 8)) : RR f a b ∧ DD a b ≤ DD a c + 1 := by
  unfold Adj at ha
  refine ⟨fun x h1 h2 => ?_, ?_⟩
  · by_cases e : x = b % 8
    · rw [e]; exact hb
    · exact h x (by omega) (by omega)
  · unfold DD; omega
theorem RR_back {f : Nat → Int32} {a c k : Nat} (h : RR f a c) (ha : a < 48) (hc : c < 48) (hd : DD a c = k + 1) : ∃ b, b < 48 ∧ RR f a b ∧ DD a b = k ∧ Adj b c := by
  unfold DD at hd
  have go : ∀ b, b < 48 → (b % 8 = c % 8 ∨ (min (a % 8) (c % 8) ≤ b % 8 ∧ b % 8 ≤ max (a % 8) (c % 8))) → DD a b = k → Adj b c → ∃ b, b < 48 ∧ RR f a b ∧ DD a b = k ∧ Adj b c := fun b hb hx h1 h2 => ⟨b, hb, fun x h3 h4 => h x (by omega) (by omega), h1, h2⟩
  by_cases h1 : c / 8 < a / 8
  · exact go (c + 8) (by omega) (by omega) (by unfold DD; omega) (by unfold Adj; omega)
  · by_cases h2 : a / 8 < c / 8
    · exact go (c - 8) (by omega) (by omega) (by unfold DD; omega) (by unfold Adj; omega)
    · by_cases h3 : c % 8 < a % 8
      · exact go (c + 1) (by omega) (by omega) (by unfold DD; omega) (by unfold Adj; omega)
      · exact go (c - 1) (by omega) (by omega) (by unfold DD; omega) (by unfold Adj; omega)
theorem RR_down {f : Nat → Int32} {a : Nat} (ha : a < 48) {k : Nat} : ∀ (n c : Nat), c < 48 → RR f a c → DD a c = k + n → ∃ b, b < 48 ∧ RR f a b ∧ DD a b = k := by
  intro n
  induction n with
  | zero => intro c hc h hd; exact ⟨c, hc, h, hd⟩
  | succ n ih =>
    intro c hc h hd
    obtain ⟨b, hb, h1, h2, -⟩ := RR_back (k := k + n) h ha hc (by omega)
    exact ih b hb h1 h2
/-! a ring is gone through: T, the cells beside those gone through -/
def rgI (f : Nat → Int32) (a k en : Nat) (e0 : Nat → Int32) (T : Nat → Prop) (s : (Nat → Int32) × (Nat → Int32) × Nat) : Prop :=
  okE s ∧ en ≤ s.2.2 ∧ (∀ i, i < en → s.2.1 i = e0 i) ∧ (∀ c, c < 48 → (s.1 c = 1 ↔ RR f a c ∧ (DD a c ≤ k ∨ (DD a c = k + 1 ∧ T c)))) ∧ (∀ i, i < s.2.2 → ∃ c, c < 48 ∧ s.2.1 i = nI c ∧ s.1 c = 1) ∧ (∀ c, c < 48 → s.1 c = 1 → DD a c = k + 1 → ∃ i, en ≤ i ∧ i < s.2.2 ∧ s.2.1 i = nI c) ∧ (∀ i c, en ≤ i → i < s.2.2 → c < 48 → s.2.1 i = nI c → DD a c = k + 1)
theorem rgI.ad {f : Nat → Int32} {a k en : Nat} {e0 : Nat → Int32} {T : Nat → Prop} {s : (Nat → Int32) × (Nat → Int32) × Nat} {c : Nat} (h : rgI f a k en e0 T s) (hc : c < 48) (hr : ¬ rpl f (c % 8) → RR f a c ∧ DD a c ≤ k + 1) : rgI f a k en e0 (fun x => T x ∨ x = c) (adN f c s) := by
  obtain ⟨h1, h2, h3, h4, h5, h6, h7⟩ := h
  have ho := h1.ad (f := f) hc
  unfold adN at ho ⊢
  by_cases q : isN f s.1 c
  · rw [if_pos q] at ho ⊢
    have hcm : ¬ rpl f (c % 8) := fun z => q.1 ((rip_r hc).mpr z)
    obtain ⟨r1, r2⟩ := hr hcm
    have r3 : ¬ DD a c ≤ k := fun z => by
      have := (h4 c hc).mpr ⟨r1, Or.inl z⟩
      rw [q.2] at this
      exact absurd this (by decide)
    have r4 : DD a c = k + 1 := by omega
    have hn := h1.lt hc q.2
    refine ⟨ho, Nat.le_succ_of_le h2, fun i hi => ?_, fun x hx => ?_, fun i hi => ?_, fun x hx hx1 hxd => ?_, fun i x hi1 hi2 hx he => ?_⟩
    · show upd s.2.1 s.2.2 (nI c) i = e0 i
      rw [pk_un (by omega)]; exact h3 i hi
    · show upd s.1 c 1 x = 1 ↔ _
      by_cases e : x = c
      · subst e
        rw [pk_us]
        exact ⟨fun _ => ⟨r1, Or.inr ⟨r4, Or.inr rfl⟩⟩, fun _ => rfl⟩
      · rw [pk_un e, h4 x hx]
        constructor
        · rintro ⟨z1, z2 | ⟨z2, z3⟩⟩
          · exact ⟨z1, Or.inl z2⟩
          · exact ⟨z1, Or.inr ⟨z2, Or.inl z3⟩⟩
        · rintro ⟨z1, z2 | ⟨z2, z3 | z3⟩⟩
          · exact ⟨z1, Or.inl z2⟩
          · exact ⟨z1, Or.inr ⟨z2, z3⟩⟩
          · exact absurd z3 e
    · have hi' : i < s.2.2 + 1 := hi
      show ∃ y, y < 48 ∧ upd s.2.1 s.2.2 (nI c) i = nI y ∧ upd s.1 c 1 y = 1
      by_cases e : i = s.2.2
      · exact ⟨c, hc, by rw [e, pk_us], pk_us⟩
      · obtain ⟨y, y1, y2, y3⟩ := h5 i (by omega)
        refine ⟨y, y1, by rw [pk_un e]; exact y2, ?_⟩
        by_cases e2 : y = c
        · rw [e2, pk_us]
        · rw [pk_un e2]; exact y3
    · show ∃ i, en ≤ i ∧ i < s.2.2 + 1 ∧ upd s.2.1 s.2.2 (nI c) i = nI x
      by_cases e : x = c
      · exact ⟨s.2.2, h2, by omega, by rw [pk_us, e]⟩
      · have hx2 : upd s.1 c 1 x = 1 := hx1
        rw [pk_un e] at hx2
        obtain ⟨i, i1, i2, i3⟩ := h6 x hx hx2 hxd
        exact ⟨i, i1, by omega, by rw [pk_un (by omega)]; exact i3⟩
    · have hi' : i < s.2.2 + 1 := hi2
      have he' : upd s.2.1 s.2.2 (nI c) i = nI x := he
      by_cases e : i = s.2.2
      · rw [e, pk_us, nI_eq (by omega) (by omega)] at he'
        rw [← he']; exact r4
      · rw [pk_un e] at he'
        exact h7 i x hi1 (by omega) hx he'
  · rw [if_neg q] at ho ⊢
    refine ⟨ho, h2, h3, fun x hx => ?_, h5, h6, h7⟩
    rw [h4 x hx]
    constructor
    · rintro ⟨z1, z2 | ⟨z2, z3⟩⟩
      · exact ⟨z1, Or.inl z2⟩
      · exact ⟨z1, Or.inr ⟨z2, Or.inl z3⟩⟩
    · rintro ⟨z1, z2 | ⟨z2, z3 | z3⟩⟩
      · exact ⟨z1, Or.inl z2⟩
      · exact ⟨z1, Or.inr ⟨z2, z3⟩⟩
      · subst z3
        have hg : ¬ s.1 x = 0 := fun z => q ⟨fun w => RR_calm z1 ((rip_r hx).mp w), z⟩
        exact (h4 x hx).mp ((h1.1 x hx).resolve_left hg)
theorem rgI.to {f : Nat → Int32} {a k en : Nat} {e0 : Nat → Int32} {T T' : Nat → Prop} {s : (Nat → Int32) × (Nat → Int32) × Nat} (h : rgI f a k en e0 T s) (ht : ∀ x, T x ↔ T' x) : rgI f a k en e0 T' s := by
  have : T = T' := funext (fun x => propext (ht x))
  exact this ▸ h
theorem rgI.spr {f : Nat → Int32} {a k en : Nat} {e0 : Nat → Int32} {T : Nat → Prop} {s : (Nat → Int32) × (Nat → Int32) × Nat} {c : Nat} (h : rgI f a k en e0 T s) (hc : c < 48) (hr : RR f a c) (hd : DD a c = k) : rgI f a k en e0 (fun x => T x ∨ Adj c x) (spr f c s) := by
  have go : ∀ x, Adj c x → ¬ rpl f (x % 8) → RR f a x ∧ DD a x ≤ k + 1 := fun x hx hb => by
    have := RR_adj hr hc hx hb
    exact ⟨this.1, by omega⟩
  have s1 : rgI f a k en e0 (fun x => T x ∨ (8 ≤ c ∧ x = c - 8)) (bk1 f c s) := by
    unfold bk1
    by_cases q : 8 ≤ c
    · rw [if_pos q]
      exact (h.ad (c := c - 8) (by omega) (go _ (Or.inl ⟨q, rfl⟩))).to (fun x => by simp only [q, true_and])
    · rw [if_neg q]
      exact h.to (fun x => by simp only [q, false_and, or_false])
  have s2 : rgI f a k en e0 (fun x => (T x ∨ (8 ≤ c ∧ x = c - 8)) ∨ (c % 8 < 7 ∧ x = c + 1)) (bk2 f c (bk1 f c s)) := by
    unfold bk2
    by_cases q : c % 8 < 7
    · rw [if_pos q]
      exact (s1.ad (c := c + 1) (by omega) (go _ (Or.inr (Or.inl ⟨q, rfl⟩)))).to (fun x => by simp only [q, true_and])
    · rw [if_neg q]
      exact s1.to (fun x => by simp only [q, false_and, or_false])
  have s3 : rgI f a k en e0 (fun x => ((T x ∨ (8 ≤ c ∧ x = c - 8)) ∨ (c % 8 < 7 ∧ x = c + 1)) ∨ (c < 40 ∧ x = c + 8)) (bk3 f c (bk2 f c (bk1 f c s))) := by
    unfold bk3
    by_cases q : c < 40
    · rw [if_pos q]
      exact (s2.ad (c := c + 8) (by omega) (go _ (Or.inr (Or.inr (Or.inl ⟨q, rfl⟩))))).to (fun x => by simp only [q, true_and])
    · rw [if_neg q]
      exact s2.to (fun x => by simp only [q, false_and, or_false])
  have s4 : rgI f a k en e0 (fun x => (((T x ∨ (8 ≤ c ∧ x = c - 8)) ∨ (c % 8 < 7 ∧ x = c + 1)) ∨ (c < 40 ∧ x = c + 8)) ∨ (0 < c % 8 ∧ x = c - 1)) (bk4 f c (bk3 f c (bk2 f c (bk1 f c s)))) := by
    unfold bk4
    by_cases q : 0 < c % 8
    · rw [if_pos q]
      exact (s3.ad (c := c - 1) (by omega) (go _ (Or.inr (Or.inr (Or.inr ⟨q, rfl⟩))))).to (fun x => by simp only [q, true_and])
    · rw [if_neg q]
      exact s3.to (fun x => by simp only [q, false_and, or_false])
  exact s4.to (fun x => by unfold Adj; simp only [or_assoc])
/-- between two rings: the cells with at most k steps have come; those with just k lie from gn on -/
def wyI (f : Nat → Int32) (a b k gn : Nat) (s : (Nat → Int32) × (Nat → Int32) × Nat) : Prop :=
  okE s ∧ gn ≤ s.2.2 ∧ (∀ c, c < 48 → (s.1 c = 1 ↔ RR f a c ∧ DD a c ≤ k)) ∧ (∀ i, i < s.2.2 → ∃ c, c < 48 ∧ s.2.1 i = nI c ∧ s.1 c = 1) ∧ (∀ c, c < 48 → s.1 c = 1 → DD a c = k → ∃ i, gn ≤ i ∧ i < s.2.2 ∧ s.2.1 i = nI c) ∧ (∀ i c, gn ≤ i → i < s.2.2 → c < 48 → s.2.1 i = nI c → DD a c = k) ∧ (RR f a b → k ≤ DD a b)
/-- the cells beside those of places gn to j -/
def bsd (e0 : Nat → Int32) (gn j x : Nat) : Prop := ∃ i c, gn ≤ i ∧ i < j ∧ c < 48 ∧ e0 i = nI c ∧ Adj c x
theorem wyI.begin {f : Nat → Int32} {a b k gn : Nat} {s : (Nat → Int32) × (Nat → Int32) × Nat} (h : wyI f a b k gn s) : rgI f a k s.2.2 s.2.1 (bsd s.2.1 gn gn) s := by
  obtain ⟨h1, h2, h3, h4, h5, h6, h7⟩ := h
  have no : ∀ x, ¬ bsd s.2.1 gn gn x := fun x ⟨i, c, z1, z2, _⟩ => by omega
  refine ⟨h1, Nat.le_refl _, fun _ _ => rfl, fun c hc => ?_, h4, fun c hc q1 q2 => ?_, fun i c z1 z2 => ?_⟩
  · rw [h3 c hc]
    exact ⟨fun z => ⟨z.1, Or.inl z.2⟩, fun z => ⟨z.1, z.2.elim id (fun w => absurd w.2 (no c))⟩⟩
  · have := ((h3 c hc).mp q1).2
    omega
  · omega
theorem bsd_s {e0 : Nat → Int32} {gn j c : Nat} (hg : gn ≤ j) (hc : c < 48) (he : e0 j = nI c) (x : Nat) : (bsd e0 gn j x ∨ Adj c x) ↔ bsd e0 gn (j + 1) x := by
  constructor
  · rintro (⟨i, y, z1, z2, z3, z4, z5⟩ | z)
    · exact ⟨i, y, z1, by omega, z3, z4, z5⟩
    · exact ⟨j, c, hg, by omega, hc, he, z⟩
  · rintro ⟨i, y, z1, z2, z3, z4, z5⟩
    by_cases e : i = j
    · right
      subst e
      rw [he, nI_eq (by omega) (by omega)] at z4
      exact z4 ▸ z5
    · exact Or.inl ⟨i, y, z1, by omega, z3, z4, z5⟩
theorem wyI.next {f : Nat → Int32} {a b k gn : Nat} {s s' : (Nat → Int32) × (Nat → Int32) × Nat} (ha : a < 48) (h : wyI f a b k gn s) (hb : b < 48) (h0 : s.1 b = 0) (g : rgI f a k s.2.2 s.2.1 (bsd s.2.1 gn s.2.2) s') : wyI f a b (k + 1) s.2.2 s' := by
  obtain ⟨h1, h2, h3, h4, h5, h6, h7⟩ := h
  obtain ⟨g1, g2, g3, g4, g5, g6, g7⟩ := g
  have key : ∀ c, c < 48 → RR f a c → DD a c = k + 1 → bsd s.2.1 gn s.2.2 c := by
    intro c hc hr hd
    obtain ⟨x, x1, x2, x3, x4⟩ := RR_back hr ha hc hd
    obtain ⟨i, i1, i2, i3⟩ := h5 x x1 ((h3 x x1).mpr ⟨x2, by omega⟩) x3
    exact ⟨i, x, i1, i2, x1, i3, x4⟩
  refine ⟨g1, g2, fun c hc => ?_, g5, g6, g7, fun hr => ?_⟩
  · rw [g4 c hc]
    constructor
    · rintro ⟨z1, z2 | z2⟩
      · exact ⟨z1, by omega⟩
      · exact ⟨z1, by omega⟩
    · rintro ⟨z1, z2⟩
      refine ⟨z1, ?_⟩
      by_cases q : DD a c ≤ k
      · exact Or.inl q
      · exact Or.inr ⟨by omega, key c hc z1 (by omega)⟩
  · have := h7 hr
    have hne : ¬ DD a b ≤ k := fun z => by
      have := (h3 b hb).mpr ⟨hr, z⟩
      rw [h0] at this
      exact absurd this (by decide)
    omega
theorem wyI.found {f : Nat → Int32} {a b k gn : Nat} {s : (Nat → Int32) × (Nat → Int32) × Nat} (h : wyI f a b k gn s) (hb : b < 48) (h1 : ¬ s.1 b = 0) : RR f a b ∧ DD a b = k := by
  have := (h.2.2.1 b hb).mp ((h.1.1 b hb).resolve_left h1)
  have h7 := h.2.2.2.2.2.2 this.1
  exact ⟨this.1, by omega⟩
theorem wyI.none {f : Nat → Int32} {a b k gn : Nat} {s : (Nat → Int32) × (Nat → Int32) × Nat} (ha : a < 48) (h : wyI f a b k gn s) (hb : b < 48) (h0 : s.1 b = 0) (hg : s.2.2 ≤ gn) : ¬ RR f a b := by
  intro hr
  have h7 := h.2.2.2.2.2.2 hr
  obtain ⟨c, c1, c2, c3⟩ := RR_down ha (DD a b - k) b hb hr (k := k) (by omega)
  obtain ⟨i, i1, i2, -⟩ := h.2.2.2.2.1 c c1 ((h.2.2.1 c c1).mpr ⟨c2, by omega⟩) c3
  omega
theorem wyI.start {f : Nat → Int32} {a b : Nat} {g e : Nat → Int32} (ha : a < 48) (hg : ∀ c, c < 48 → g c = 0) : (¬ rip f (nI a) → wyI f a b 0 0 (upd g a 1, upd e 0 (nI a), 1)) ∧ (rip f (nI a) → wyI f a b 0 0 (g, upd e 0 (nI a), 0)) := by
  have d0 : ∀ c, c < 48 → DD a c ≤ 0 → c = a := fun c hc h => by unfold DD at h; omega
  have daa : DD a a = 0 := by unfold DD; omega
  have c0 : ∀ n, n ≤ 48 → cnt g n = 0 := by
    intro n
    induction n with
    | zero => intro _; rfl
    | succ n ih => intro hn; rw [cnt, ih (by omega), if_neg (by rw [hg n (by omega)]; decide)]
  constructor
  · intro hr
    have hR : RR f a a := fun x h1 h2 => by
      have : x = a % 8 := by omega
      rw [this]; exact fun z => hr ((rip_r ha).mpr z)
    refine ⟨⟨fun c hc => ?_, ?_⟩, Nat.zero_le _, fun c hc => ?_, fun i hi => ?_, fun c hc q1 q2 => ?_, fun i c _ hi hc he => ?_, fun _ => Nat.zero_le _⟩
    · show upd g a 1 c = 0 ∨ upd g a 1 c = 1
      by_cases q : c = a
      · rw [q, pk_us]; exact Or.inr rfl
      · rw [pk_un q]; exact Or.inl (hg c hc)
    · show cnt (upd g a 1) 48 = 1
      rw [cnt_u (hg a ha), c0 48 (Nat.le_refl _), if_pos ha]
    · show upd g a 1 c = 1 ↔ _
      by_cases q : c = a
      · rw [q, pk_us]; exact ⟨fun _ => ⟨hR, by omega⟩, fun _ => rfl⟩
      · rw [pk_un q, hg c hc]; exact ⟨fun z => absurd z (by decide), fun z => absurd (d0 c hc z.2) q⟩
    · have hi' : i < 1 := hi
      refine ⟨a, ha, ?_, pk_us (f := g) (k := a) (x := 1)⟩
      show upd e 0 (nI a) i = nI a
      rw [show i = 0 by omega, pk_us]
    · exact ⟨0, Nat.le_refl _, (by omega : 0 < 1), by rw [d0 c hc (by omega)]; exact pk_us (f := e) (k := 0) (x := nI a)⟩
    · have hi' : i < 1 := hi
      have he' : upd e 0 (nI a) i = nI c := he
      rw [show i = 0 by omega, pk_us, nI_eq (by omega) (by omega)] at he'
      rw [← he']; exact daa
  · intro hr
    have hR : ∀ c, ¬ RR f a c := fun c h => h (a % 8) (by omega) (by omega) ((rip_r ha).mp hr)
    refine ⟨⟨fun c hc => Or.inl (hg c hc), c0 48 (Nat.le_refl _)⟩, Nat.zero_le _, fun c hc => ?_, fun i hi => absurd hi (Nat.not_lt_zero i), fun c hc q1 _ => absurd q1 (by show ¬ g c = 1; rw [hg c hc]; decide), fun i c _ hi => absurd hi (Nat.not_lt_zero i), fun _ => Nat.zero_le _⟩
    show g c = 1 ↔ _
    rw [hg c hc]
    exact ⟨fun z => absurd z (by decide), fun z => absurd z.1 (hR c)⟩
/-- the reference behind 'way': what it went by is anything -/
def qW (q : xQ) (co ed : Nat → Int32) : xQ := (q.1, q.2.1, q.2.2.1, co, ed, q.2.2.2.2.2)
def WP (lk : Nat → Nat → Int32) (o : xO) (q : xQ) (sp : SP) : List Value → List va_E → Prop := fun v h' => v = [.int sp.1] ∧ ∃ mf wf co ed, eq65 sp.2.2 mf ∧ h' = hp lk o mf wf (fnQ (qW q co ed) sp.2.1)
theorem wpR {lk : Nat → Nat → Int32} {o : xO} {mf wf co ed : Nat → Int32} {q : xQ} {sp : SP} {x : Int32} {j : Option Nat} {g : Nat → Int32} (e : sp = (x, j, g)) (h : eq65 g mf) : WP lk o q sp [.int x] (hp lk o mf wf (fnQ (qW q co ed) j)) := by subst e; exact ⟨rfl, _, _, _, _, h, rfl⟩
def clr (n : Nat) (g : Nat → Int32) : Nat → Int32 := fun k => if k < n then 0 else g k
theorem clr_0 {g : Nat → Int32} : clr 0 g = g := by funext k; simp [clr]
theorem clr_s {n : Nat} {g : Nat → Int32} : upd (clr n g) n 0 = clr (n + 1) g := by
  funext k
  unfold upd clr
  by_cases h : k = n
  · rw [if_pos h, if_pos (by omega)]
  · rw [if_neg h]
    by_cases h2 : k < n
    · rw [if_pos h2, if_pos (by omega)]
    · rw [if_neg h2, if_neg (by omega)]
/-- the straight way's own words -/
theorem srch_none {P : Nat → Prop} [DecidablePred P] : ∀ k t, srch P k t = none ↔ ∀ x, t ≤ x → x < t + k → ¬ P x := by
  intro k
  induction k with
  | zero => intro t; exact ⟨fun _ x h1 h2 => by omega, fun _ => rfl⟩
  | succ k ih =>
    intro t
    rw [srch]
    by_cases q : P t
    · rw [if_pos q]
      exact ⟨fun z => (by cases z), fun z => absurd q (z t (by omega) (by omega))⟩
    · rw [if_neg q, ih]
      constructor
      · intro z x h1 h2
        by_cases e : x = t
        · rw [e]; exact q
        · exact z x (by omega) (by omega)
      · intro z x h1 h2
        exact z x (by omega) (by omega)
theorem way_none {f : Nat → Int32} {a b : Nat} : srch (rpl f) (wyR a b + 1 - wyL a b) (wyL a b) = none ↔ RR f a b := by
  rw [srch_none]
  unfold RR wyR wyL
  exact ⟨fun z x h1 h2 => z x (by omega) (by omega), fun z x h1 h2 => z x (by omega) (by omega)⟩
theorem way_yes {f : Nat → Int32} {a b : Nat} (h : RR f a b) : wyQ f (wyD a b) (srch (rpl f) (wyR a b + 1 - wyL a b) (wyL a b)) = (nI (DD a b), none, f) := by
  rw [way_none.mpr h]
  have : wyD a b = DD a b := by unfold wyD DD wyR wyL; omega
  rw [wyQ, this]
theorem way_no {f : Nat → Int32} {a b : Nat} (h : ¬ RR f a b) : wyQ f (wyD a b) (srch (rpl f) (wyR a b + 1 - wyL a b) (wyL a b)) = (-1000000004, some 3, f) := by
  cases e : srch (rpl f) (wyR a b + 1 - wyL a b) (wyL a b) with
  | none => exact absurd (way_none.mp e) h
  | some x => rfl
