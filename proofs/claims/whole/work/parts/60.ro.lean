/-! WHAT NOBODY WRITES, out of the Statement's premises -/
abbrev flA : List Cond := flatC (Jvm.Cond.and given_1 narrow_1)
abbrev tmK : Term := .static "GlintNets" "KIND_ABOVE" "[I"
abbrev tmN : Term := .static "GlintNetsModel" "NAMES" "[I"
abbrev tmX (i : Nat) : Term := .string RX4 (xix.getD i 0)
abbrev tmV (i : Nat) : Term := .field (tmX i) "java/lang/String" "value" "[B"
def xps : List Nat := [157, 166, 176, 187, 198, 213, 226, 238, 253, 270, 286, 304, 322, 342, 363, 384]
theorem fl_K0 : flA[5]? = some (.arrayOf tmK .int) ∧ flA[6]? = some (.eq (.length tmK) (.int 6)) := by decide +kernel
theorem fl_K : ∀ j, j < 6 → flA[7 + j]? = some (.eq (.elem tmK (.int (Int32.ofNat j))) (.int (xka.getD j 0))) := by decide +kernel
theorem fl_C : flA[13]? = some (.eq (.static "java/lang/String" "COMPACT_STRINGS" "Z") (.int 1)) ∧ flA[14]? = some (.isRef (.static "jdk/internal/util/Preconditions" "SIOOBE_FORMATTER" "Ljava/util/function/BiFunction;")) := by decide +kernel
theorem fl_N0 : flA[19]? = some (.arrayOf tmN .int) ∧ flA[20]? = some (.eq (.length tmN) (.int 112)) := by decide +kernel
theorem fl_N : ∀ j, j < 112 → flA[21 + j]? = some (.eq (.elem tmN (.int (Int32.ofNat j))) (.int (xnm.getD j 0))) := by decide +kernel
theorem fl_S : ∀ i, i < 16 → flA[xps.getD i 0]? = some (.exactly (tmX i) "java/lang/String") ∧ flA[xps.getD i 0 + 1]? = some (.eq (.field (tmX i) "java/lang/String" "coder" "B") (.int 0)) ∧ flA[xps.getD i 0 + 2]? = some (.arrayOf (tmV i) .byte) ∧ flA[xps.getD i 0 + 3]? = some (.eq (.length (tmV i)) (.int (Int32.ofNat (xln.getD i 0)))) := by decide +kernel
theorem fl_E : ∀ i, i < 16 → ∀ j, j < xln.getD i 0 → flA[xps.getD i 0 + 4 + j]? = some (.eq (.elem (tmV i) (.int (Int32.ofNat j))) (.int ((xby.getD i []).getD j 0))) := by decide +kernel
def xpd : List (List Nat) := [[], [175], [185, 186], [195, 196, 197], [209, 210, 211, 212], [221, 222, 223, 224, 225], [232, 233, 234, 235, 236, 237], [246, 247, 248, 249, 250, 251, 252], [262, 263, 264, 265, 266, 267, 268, 269], [277, 278, 279, 280, 281, 282, 283, 284, 285], [294, 295, 296, 297, 298, 299, 300, 301, 302, 303], [311, 312, 313, 314, 315, 316, 317, 318, 319, 320, 321], [330, 331, 332, 333, 334, 335, 336, 337, 338, 339, 340, 341], [350, 351, 352, 353, 354, 355, 356, 357, 358, 359, 360, 361, 362], [370, 371, 372, 373, 374, 375, 376, 377, 378, 379, 380, 381, 382, 383], [393, 394, 395, 396, 397, 398, 399, 400, 401, 402, 403, 404, 405, 406, 407]]
theorem fl_D : ∀ j, j < 16 → ∀ i, i < j → flA[(xpd.getD j []).getD i 0]? = some (.not (.eq (tmX i) (tmX j))) := by decide +kernel
def xpq : List Nat := [579, 632, 633, 634, 635, 636, 641, 646, 647, 648, 650, 655, 657, 662, 663, 664]
theorem tb_R : ∀ i, i < 16 → lw_tbl[xpq.getD i 0]? = some (Cond.stringRef RX4 (xix.getD i 0) (xtx.getD i "")) := by decide +kernel
theorem tb_L : lw_tbl[379]? = some (.laysStatic "GlintNets" "KIND_ABOVE" "[I") ∧ lw_tbl[1069]? = some (.laysStatic "GlintNetsModel" "NAMES" "[I") ∧ lw_tbl[593]? = some (.laysStatic "java/lang/String" "COMPACT_STRINGS" "Z") ∧ lw_tbl[609]? = some (.laysStatic "jdk/internal/util/Preconditions" "SIOOBE_FORMATTER" "Ljava/util/function/BiFunction;") := by decide +kernel
theorem tb_O : lw_tbl[90]? = some (.arrayOver (.object RX5)) ∧ lw_tbl[127]? = some (.arrayOver (.object RX0)) ∧ lw_tbl[231]? = some (.arrayOver (.object RX2)) ∧ lw_tbl[378]? = some (.fieldLinkNest RX5 xni "GlintNets" "KIND_ABOVE" "[I" "GlintNets") := by decide +kernel
set_option maxHeartbeats 4000000 in
theorem ro_all {s : State} {b L : Nat} {xs : Nat → Int32} (hL : L ≤ 3072) (hts : ∀ w ∈ lw_tbl, w.before #[Value.ref b] s = true) (hX : va_X b L xs s s.heap) (hbl : b < s.heap.size) (hgv : (Jvm.Cond.and given_1 narrow_1).before #[Value.ref b] s = true) : ∃ E : xE, E.1 = s.heap.size ∧ E.2.1 1000 = b ∧ va_K E.2.2.2.1 xcl (xtys E) s ∧ xRO (L, xs) E s s.heap ∧ E.2.2.1.category = 1 := by
  have hA : ∀ a : Nat, a < s.heap.size → ¬ (fun q : Nat => s.heap.size ≤ q) a := fun a h q => absurd q (Nat.not_le.mpr h)
  have ht : ∀ w ∈ xT, w.before #[Value.ref b] s = true := fun w hw => hts w (xT_sub w hw)
  have hf := flat_of_before _ hgv
  have hm : ∀ {i : Nat} {c : Cond}, flA[i]? = some c → c.before #[Value.ref b] s = true := fun h => hf _ (List.mem_of_getElem? h)
  have hw : ∀ {i : Nat} {c : Cond}, lw_tbl[i]? = some c → c.before #[Value.ref b] s = true := fun h => hts _ (List.mem_of_getElem? h)
  obtain ⟨aK, vK, tK⟩ := va_Tof (A := fun q : Nat => s.heap.size ≤ q) (tm := tmK) (ty := .int) (N := 6) (f := fun j => .int (xka.getD j 0)) (by decide) (hm fl_K0.1) (va_eqt (hm fl_K0.2)) (fun j hj => va_eqt (hm (fl_K j hj))) hA
  obtain ⟨aN, vN, tN⟩ := va_Tof (A := fun q : Nat => s.heap.size ≤ q) (tm := tmN) (ty := .int) (N := 112) (f := fun j => .int (xnm.getD j 0)) (by decide) (hm fl_N0.1) (va_eqt (hm fl_N0.2)) (fun j hj => va_eqt (hm (fl_N j hj))) hA
  have zK : va_Z "GlintNets" "KIND_ABOVE" "[I" (.ref aK) (fun q : Nat => s.heap.size ≤ q) s s.heap := va_Zof (hw tb_L.1) (ht _ iiX6) vK hA
  have zN : va_Z "GlintNetsModel" "NAMES" "[I" (.ref aN) (fun q : Nat => s.heap.size ≤ q) s s.heap := va_Zof (hw tb_L.2.1) (ht _ iiX7) vN hA
  have zC : va_Z "java/lang/String" "COMPACT_STRINGS" "Z" (.int 1) (fun q : Nat => s.heap.size ≤ q) s s.heap := va_Zof (hw tb_L.2.2.1) (ht _ iiJ0) (va_eqt (hm fl_C.1)) hA
  obtain ⟨vO, zO, cO⟩ : ∃ v : Value, va_Z "jdk/internal/util/Preconditions" "SIOOBE_FORMATTER" "Ljava/util/function/BiFunction;" v (fun q : Nat => s.heap.size ≤ q) s s.heap ∧ v.category = 1 := by
    rcases va_Zqof (A := fun q : Nat => s.heap.size ≤ q) (hw tb_L.2.2.2) (ht _ iiJ3) (hm fl_C.2) hA with h | ⟨a, h⟩
    · exact ⟨_, h, rfl⟩
    · exact ⟨_, h, rfl⟩
  obtain ⟨aS, aV, hS, eS⟩ := vk_Sof (N := 16) (tm := tmX) (len := xln) (byt := xby) (A := fun q : Nat => s.heap.size ≤ q) (by decide) (fun i hi => hm (fl_S i hi).1) (fun i hi => hm (fl_S i hi).2.1) (fun i hi => hm (fl_S i hi).2.2.1) (fun i hi => hm (fl_S i hi).2.2.2) (fun i hi j hj => hm (fl_E i hi j hj)) (fun i j hi hj hij => (Nat.lt_or_gt_of_ne hij).elim (fun z => Or.inl (hm (fl_D j hj i z))) (fun z => Or.inr (hm (fl_D i hi j z)))) hA
  obtain ⟨c0, i0, k0⟩ := u_known (C := RX0) (T := TX0) (N := 4) (n := 4) ht xk0.2.1 (ht _ inX0)
  obtain ⟨c1, i1, k1⟩ := u_known (C := RX1) (T := TX1) (N := 7) (n := 7) ht xk1.2.1 (ht _ inX1)
  obtain ⟨c2, i2, k2⟩ := u_known (C := RX2) (T := TX2) (N := 3) (n := 3) ht xk2.2.1 (ht _ inX2)
  obtain ⟨c3, i3, k3⟩ := u_known (C := RX3) (T := TX3) (N := 2) (n := 2) ht xk3.2.1 (ht _ inX3)
  obtain ⟨c4, i4, k4⟩ := u_known (C := RX4) (T := TX4) (N := 5) (n := 5) ht xk4.2.1 (ht _ inX4)
  obtain ⟨c5, i5, k5⟩ := u_known (C := RX5) (T := TX5) (N := 5) (n := 5) ht xk5.2.1 (ht _ inX5)
  obtain ⟨c6, i6, k6⟩ := u_known (C := RX6) (T := TX6) (N := 8) (n := 8) ht xk6.2.1 (ht _ inX6)
  obtain ⟨c7, i7, k7⟩ := u_known (C := RX7) (T := TX7) (N := 17) (n := 17) ht xk7.2.1 (ht _ inX7)
  obtain ⟨rI, kI, oI, p1, p2, p3⟩ := Cond.arrayClass_spec (ht _ ac_int)
  obtain ⟨rJ, kJ, oJ, p4, p5, p6⟩ := Cond.arrayClass_spec (ht _ ac_long)
  obtain ⟨rZ, kZ, oZ', p7, p8, p9⟩ := Cond.arrayClass_spec (ht _ ac_boolean)
  obtain ⟨mT, rT, kT, q1, -, q2, q3, q4⟩ := Cond.arrayOver_spec (hw tb_O.1)
  obtain ⟨mB, rB, kB, q5, -, q6, q7, q8⟩ := Cond.arrayOver_spec (hw tb_O.2.1)
  obtain ⟨mS, rS, kS, q9, -, q10, q11, q12⟩ := Cond.arrayOver_spec (hw tb_O.2.2.1)
  refine ⟨(s.heap.size, fun k => if k = 1000 then b else if k = 1001 then aK else if k = 1002 then aN else if k < 1200 then aS (k - 1100) else aV (k - 1200), vO, (fun k => if k = 0 then c0 else if k = 1 then c1 else if k = 2 then c2 else if k = 3 then c3 else if k = 4 then c4 else if k = 5 then c5 else if k = 6 then c6 else c7, fun k => if k = 0 then i0 else if k = 1 then i1 else if k = 2 then i2 else if k = 3 then i3 else if k = 4 then i4 else if k = 5 then i5 else if k = 6 then i6 else i7), fun t => if t = 0 then rI else if t = 1 then rJ else if t = 2 then rZ else if t = 3 then rT else if t = 4 then rB else rS), rfl, rfl, ⟨?_, ?_⟩, ?_, cO⟩
  · intro k q hq
    have hk : k < 8 := (List.getElem?_eq_some_iff.mp hq).1
    have hk : k = 0 ∨ k = 1 ∨ k = 2 ∨ k = 3 ∨ k = 4 ∨ k = 5 ∨ k = 6 ∨ k = 7 := by omega
    rcases hk with rfl | rfl | rfl | rfl | rfl | rfl | rfl | rfl <;> cases hq
    · exact k0
    · exact k1
    · exact k2
    · exact k3
    · exact k4
    · exact k5
    · exact k6
    · exact k7
  · intro k q hq
    have hk : k < 6 := (List.getElem?_eq_some_iff.mp hq).1
    have hk : k = 0 ∨ k = 1 ∨ k = 2 ∨ k = 3 ∨ k = 4 ∨ k = 5 := by omega
    rcases hk with rfl | rfl | rfl | rfl | rfl | rfl <;> cases hq
    · exact ⟨fun N z => ⟨(fun k h => by cases h), kI, p2, oI, p3⟩, p1⟩
    · exact ⟨fun N z => ⟨(fun k h => by cases h), kJ, p5, oJ, p6⟩, p4⟩
    · exact ⟨fun N z => ⟨(fun k h => by cases h), kZ, p8, oZ', p9⟩, p7⟩
    · exact ⟨fun N z => ⟨(fun k h => by cases h), kT, q2, mT, q3⟩, kT, mT, q2, q3, q1, q4⟩
    · exact ⟨fun N z => ⟨(fun k h => by cases h), kB, q6, mB, q7⟩, kB, mB, q6, q7, q5, q8⟩
    · exact ⟨fun N z => ⟨(fun k h => by cases h), kS, q10, mS, q11⟩, kS, mS, q10, q11, q9, q12⟩
  · have e1 : ∀ i, i < 16 → (if 1100 + i = 1000 then b else if 1100 + i = 1001 then aK else if 1100 + i = 1002 then aN else if 1100 + i < 1200 then aS (1100 + i - 1100) else aV (1100 + i - 1200)) = aS i := fun i hi => by
      rw [if_neg (by omega), if_neg (by omega), if_neg (by omega), if_pos (by omega), Nat.add_sub_cancel_left]
    have e2 : ∀ i, i < 16 → (if 1200 + i = 1000 then b else if 1200 + i = 1001 then aK else if 1200 + i = 1002 then aN else if 1200 + i < 1200 then aS (1200 + i - 1100) else aV (1200 + i - 1200)) = aV i := fun i hi => by
      rw [if_neg (by omega), if_neg (by omega), if_neg (by omega), if_neg (by omega), Nat.add_sub_cancel_left]
    obtain ⟨scr, x1, x2, x3, x4, x5⟩ := hX
    refine ⟨⟨scr, x1, x2, x3, Nat.le_of_eq x4.symm, by rw [x4], x5, hA b hbl⟩, zK, tK, zN, tN, zC, zO, ⟨fun i hi => ?_, fun i j hi hj h => ?_⟩, fun i hi => ?_, va_AO.of (hw tb_O.1), va_AO.of (hw tb_O.2.1), va_AO.of (hw tb_O.2.2.1), va_Nw.of rfl (hw tb_O.2.2.2)⟩
    · show va_O "java/lang/String" (if 1100 + i = 1000 then b else if 1100 + i = 1001 then aK else if 1100 + i = 1002 then aN else if 1100 + i < 1200 then aS (1100 + i - 1100) else aV (1100 + i - 1200)) _ _ _ ∧ va_OF _ _ _ _ (if 1100 + i = 1000 then b else if 1100 + i = 1001 then aK else if 1100 + i = 1002 then aN else if 1100 + i < 1200 then aS (1100 + i - 1100) else aV (1100 + i - 1200)) _ _ _ ∧ va_OF _ _ _ (.ref (if 1200 + i = 1000 then b else if 1200 + i = 1001 then aK else if 1200 + i = 1002 then aN else if 1200 + i < 1200 then aS (1200 + i - 1100) else aV (1200 + i - 1200))) (if 1100 + i = 1000 then b else if 1100 + i = 1001 then aK else if 1100 + i = 1002 then aN else if 1100 + i < 1200 then aS (1100 + i - 1100) else aV (1100 + i - 1200)) _ _ _ ∧ va_T _ (if 1200 + i = 1000 then b else if 1200 + i = 1001 then aK else if 1200 + i = 1002 then aN else if 1200 + i < 1200 then aS (1200 + i - 1100) else aV (1200 + i - 1200)) _ _ _ _ _
      rw [e1 i hi, e2 i hi]
      exact hS.1 i hi
    · refine hS.2 i j hi hj ?_
      rw [← e1 i hi, ← e1 j hj]; exact h
    · show vk_R RX4 (xix.getD i 0) (xtx.getD i "") (if 1100 + i = 1000 then b else if 1100 + i = 1001 then aK else if 1100 + i = 1002 then aN else if 1100 + i < 1200 then aS (1100 + i - 1100) else aV (1100 + i - 1200)) s
      rw [e1 i hi]
      exact vk_R.of (hw (tb_R i hi)) (eS i hi)
