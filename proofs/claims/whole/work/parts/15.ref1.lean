section
variable {X : xS} {d : Nat} {lk : Nat → Nat → Int32} {o : xO} {mf wf : Nat → Int32} {q : xQ}
set_option maxRecDepth 100000 in
theorem ev_X7_in {v : Int64} {a b : Int32} : xDv X false (d + 0) mX7_in [.long v, .int a, .int b] (hp lk o mf wf q) [.int (if a.toInt64 ≤ v ∧ v ≤ b.toInt64 then 1 else 0)] (hp lk o mf wf q) := by
  refine xDv.of (ls := [some (.long v), none, some (.int a), some (.int b)]) mcX7_in.1.2.2.2.2 (Nat.le_of_ble_eq_true rfl) rfl ?_
  refine xg_lload_n (pc := 0) dX7_in_0 rfl ?_
  refine xg_iload_n (pc := 1) dX7_in_1 rfl ?_
  refine xg_i2l (pc := 2) dX7_in_2 ?_
  refine xg_lcmp (pc := 3) dX7_in_3 ?_
  refine xg_if_lt (pc := 4) (tgt := 18) dX7_in_4 (by decide) (fun c_4 => ?_) (fun c_4 => ?_)
  ·
    refine xg_iconst (v := 0) (pc := 18) dX7_in_18 (by decide) ?_
    exact xg_zret (pc := 19) (ty := .boolean) dX7_in_19 rfl rfl (⟨by simp only [lg_lt, lg_gt] at *; (repeat' split) <;> first | rfl | (exfalso; simp only [Int32.lt_iff_toInt_lt, Int32.le_iff_toInt_le, Int32.not_lt, Int32.not_le, ← Int32.toInt_inj, Int64.lt_iff_toInt_lt, Int64.le_iff_toInt_le, Int64.not_lt, Int64.not_le, Classical.not_not] at *; omega), rfl⟩)
  ·
    refine xg_lload_n (pc := 7) dX7_in_7 rfl ?_
    refine xg_iload_n (pc := 8) dX7_in_8 rfl ?_
    refine xg_i2l (pc := 9) dX7_in_9 ?_
    refine xg_lcmp (pc := 10) dX7_in_10 ?_
    refine xg_if_gt (pc := 11) (tgt := 18) dX7_in_11 (by decide) (fun c_11 => ?_) (fun c_11 => ?_)
    ·
      refine xg_iconst (v := 0) (pc := 18) dX7_in_18 (by decide) ?_
      exact xg_zret (pc := 19) (ty := .boolean) dX7_in_19 rfl rfl (⟨by simp only [lg_lt, lg_gt] at *; (repeat' split) <;> first | rfl | (exfalso; simp only [Int32.lt_iff_toInt_lt, Int32.le_iff_toInt_le, Int32.not_lt, Int32.not_le, ← Int32.toInt_inj, Int64.lt_iff_toInt_lt, Int64.le_iff_toInt_le, Int64.not_lt, Int64.not_le, Classical.not_not] at *; omega), rfl⟩)
    ·
      refine xg_iconst (v := 1) (pc := 14) dX7_in_14 (by decide) ?_
      refine xg_goto (pc := 15) (tgt := 19) dX7_in_15 (by decide) ?_
      exact xg_zret (pc := 19) (ty := .boolean) dX7_in_19 rfl rfl (⟨by simp only [lg_lt, lg_gt] at *; (repeat' split) <;> first | rfl | (exfalso; simp only [Int32.lt_iff_toInt_lt, Int32.le_iff_toInt_le, Int32.not_lt, Int32.not_le, ← Int32.toInt_inj, Int64.lt_iff_toInt_lt, Int64.le_iff_toInt_le, Int64.not_lt, Int64.not_le, Classical.not_not] at *; omega), rfl⟩)
theorem ev_in {x a b : Int32} : xDv X false (d + 0) mX7_in [.long x.toInt64, .int a, .int b] (hp lk o mf wf q) [.int (if a ≤ x ∧ x ≤ b then 1 else 0)] (hp lk o mf wf q) := by
  refine ev_X7_in.eq ?_ rfl
  simp only [wide_le]
set_option maxRecDepth 100000 in
theorem ev_X7_held {v a b : Int32} : xDv X false (d + 0) mX7_held [.int v, .int a, .int b] (hp lk o mf wf q) [.int (cl3 v a b)] (hp lk o mf wf q) := by
  refine xDv.of (ls := [some (.int v), some (.int a), some (.int b)]) mcX7_held.1.2.2.2.2 (Nat.le_of_ble_eq_true rfl) rfl ?_
  refine xg_iload_n (pc := 0) dX7_held_0 rfl ?_
  refine xg_iload_n (pc := 1) dX7_held_1 rfl ?_
  refine xg_icmp_ge (pc := 2) (tgt := 9) dX7_held_2 (by decide) (fun c_2 => ?_) (fun c_2 => ?_)
  ·
    refine xg_iload_n (pc := 9) dX7_held_9 rfl ?_
    refine xg_iload_n (pc := 10) dX7_held_10 rfl ?_
    refine xg_icmp_le (pc := 11) (tgt := 18) dX7_held_11 (by decide) (fun c_11 => ?_) (fun c_11 => ?_)
    ·
      refine xg_iload_n (pc := 18) dX7_held_18 rfl ?_
      exact xg_iret (pc := 19) dX7_held_19 rfl (⟨by simp only [cl3] at *; (repeat' split) <;> first | rfl | (exfalso; simp only [Int32.lt_iff_toInt_lt, Int32.le_iff_toInt_le, Int32.not_lt, Int32.not_le, ← Int32.toInt_inj, Int64.lt_iff_toInt_lt, Int64.le_iff_toInt_le, Int64.not_lt, Int64.not_le, Classical.not_not] at *; omega), rfl⟩)
    ·
      refine xg_iload_n (pc := 14) dX7_held_14 rfl ?_
      refine xg_goto (pc := 15) (tgt := 19) dX7_held_15 (by decide) ?_
      exact xg_iret (pc := 19) dX7_held_19 rfl (⟨by simp only [cl3] at *; (repeat' split) <;> first | rfl | (exfalso; simp only [Int32.lt_iff_toInt_lt, Int32.le_iff_toInt_le, Int32.not_lt, Int32.not_le, ← Int32.toInt_inj, Int64.lt_iff_toInt_lt, Int64.le_iff_toInt_le, Int64.not_lt, Int64.not_le, Classical.not_not] at *; omega), rfl⟩)
  ·
    refine xg_iload_n (pc := 5) dX7_held_5 rfl ?_
    refine xg_goto (pc := 6) (tgt := 19) dX7_held_6 (by decide) ?_
    exact xg_iret (pc := 19) dX7_held_19 rfl (⟨by simp only [cl3] at *; (repeat' split) <;> first | rfl | (exfalso; simp only [Int32.lt_iff_toInt_lt, Int32.le_iff_toInt_le, Int32.not_lt, Int32.not_le, ← Int32.toInt_inj, Int64.lt_iff_toInt_lt, Int64.le_iff_toInt_le, Int64.not_lt, Int64.not_le, Classical.not_not] at *; omega), rfl⟩)
set_option maxRecDepth 100000 in
theorem ev_X7_lit {t w : Nat} (hw : 5 + 5 * t + w < 65) : xDv X false (d + 0) mX7_lit [.ref 62, .int (nI t), .int (nI w)] (hp lk o mf wf q) [.int (mf (5 + 5 * t + w))] (hp lk o mf wf q) := by
  refine xDv.of (ls := [some (.ref 62), some (.int (nI t)), some (.int (nI w))]) mcX7_lit.1.2.2.2.2 (Nat.le_of_ble_eq_true rfl) rfl ?_
  refine xg_aload_n (pc := 0) dX7_lit_0 rfl ?_
  refine xg_get (pc := 1) dX7_lit_1 flX7_9 hp_62 rfl ?_
  refine xg_iconst (v := 5) (pc := 4) dX7_lit_4 (by decide) ?_
  refine xg_iconst (v := 5) (pc := 5) dX7_lit_5 (by decide) ?_
  refine xg_iload_n (pc := 6) dX7_lit_6 rfl ?_
  refine xg_imul (pc := 7) dX7_lit_7 ?_
  refine xg_iadd (pc := 8) dX7_lit_8 ?_
  refine xg_iload_n (pc := 9) dX7_lit_9 rfl ?_
  refine xg_iadd (pc := 10) dX7_lit_10 ?_
  refine xg_iald (pc := 11) (5 + 5 * t + w) dX7_lit_11 hp_63 (by simp only [xlit, nI_add, pk_mul]) (by omega) (by decide) ?_
  exact xg_iret (pc := 12) dX7_lit_12 rfl (⟨by rfl, rfl⟩)
set_option maxRecDepth 100000 in
theorem ev_X7_has {j w : Nat} (hw : 45 + 4 * j + w < 65) : xDv X false (d + 0) mX7_has [.ref 62, .int (nI j), .int (nI w)] (hp lk o mf wf q) [.int (mf (45 + 4 * j + w))] (hp lk o mf wf q) := by
  refine xDv.of (ls := [some (.ref 62), some (.int (nI j)), some (.int (nI w))]) mcX7_has.1.2.2.2.2 (Nat.le_of_ble_eq_true rfl) rfl ?_
  refine xg_aload_n (pc := 0) dX7_has_0 rfl ?_
  refine xg_get (pc := 1) dX7_has_1 flX7_9 hp_62 rfl ?_
  refine xg_bipush (v := 45) (pc := 4) dX7_has_4 (by decide) ?_
  refine xg_iconst (v := 4) (pc := 6) dX7_has_6 (by decide) ?_
  refine xg_iload_n (pc := 7) dX7_has_7 rfl ?_
  refine xg_imul (pc := 8) dX7_has_8 ?_
  refine xg_iadd (pc := 9) dX7_has_9 ?_
  refine xg_iload_n (pc := 10) dX7_has_10 rfl ?_
  refine xg_iadd (pc := 11) dX7_has_11 ?_
  refine xg_iald (pc := 12) (45 + 4 * j + w) dX7_has_12 hp_63 (by simp only [xlit, nI_add, pk_mul]) (by omega) (by decide) ?_
  exact xg_iret (pc := 13) dX7_has_13 rfl (⟨by rfl, rfl⟩)
set_option maxRecDepth 100000 in
theorem ev_X7_gets {j w : Nat} {v : Int32} (hw : 45 + 4 * j + w < 65) : xDv X false (d + 0) mX7_gets [.ref 62, .int (nI j), .int (nI w), .int v] (hp lk o mf wf q) [] (hp lk o (upd mf (45 + 4 * j + w) v) wf q) := by
  refine xDv.of (ls := [some (.ref 62), some (.int (nI j)), some (.int (nI w)), some (.int v)]) mcX7_gets.1.2.2.2.2 (Nat.le_of_ble_eq_true rfl) rfl ?_
  refine xg_aload_n (pc := 0) dX7_gets_0 rfl ?_
  refine xg_get (pc := 1) dX7_gets_1 flX7_9 hp_62 rfl ?_
  refine xg_bipush (v := 45) (pc := 4) dX7_gets_4 (by decide) ?_
  refine xg_iconst (v := 4) (pc := 6) dX7_gets_6 (by decide) ?_
  refine xg_iload_n (pc := 7) dX7_gets_7 rfl ?_
  refine xg_imul (pc := 8) dX7_gets_8 ?_
  refine xg_iadd (pc := 9) dX7_gets_9 ?_
  refine xg_iload_n (pc := 10) dX7_gets_10 rfl ?_
  refine xg_iadd (pc := 11) dX7_gets_11 ?_
  refine xg_iload_n (pc := 12) dX7_gets_12 rfl ?_
  refine xg_iast (pc := 13) (h' := hp lk o (upd mf (45 + 4 * j + w) v) wf q) (45 + 4 * j + w) dX7_gets_13 hp_63 (by simp only [xlit, nI_add, pk_mul]) (by omega) (by decide) hs_mf ?_
  exact xg_ret (pc := 14) dX7_gets_14 rfl (⟨rfl, rfl⟩)
set_option maxRecDepth 100000 in
theorem ev_X7_finds {j : Nat} {c : Int32} (hc : -1000000001 - c = nI j) (hj : j < 7) : xDv X false (d + 0) mX7_finds [.ref 62, .int c] (hp lk o mf wf q) [.int c] (hp lk o mf wf (q.1, q.2.1, upd q.2.2.1 j (q.2.2.1 j + 1), q.2.2.2.1, q.2.2.2.2.1, q.2.2.2.2.2.1, q.2.2.2.2.2.2.1, q.2.2.2.2.2.2.2.1, q.2.2.2.2.2.2.2.2.1, q.2.2.2.2.2.2.2.2.2.1, q.2.2.2.2.2.2.2.2.2.2.1, q.2.2.2.2.2.2.2.2.2.2.2.1, q.2.2.2.2.2.2.2.2.2.2.2.2.1, q.2.2.2.2.2.2.2.2.2.2.2.2.2.1, q.2.2.2.2.2.2.2.2.2.2.2.2.2.2)) := by
  refine xDv.of (ls := [some (.ref 62), some (.int c)]) mcX7_finds.1.2.2.2.2 (Nat.le_of_ble_eq_true rfl) rfl ?_
  refine xg_aload_n (pc := 0) dX7_finds_0 rfl ?_
  refine xg_get (pc := 1) dX7_finds_1 flX7_19 hp_62 rfl ?_
  refine xg_ldc (v := -1000000001) (pc := 4) dX7_finds_4 ccX7_42 ?_
  refine xg_iload_n (pc := 6) dX7_finds_6 rfl ?_
  refine xg_isub (pc := 7) dX7_finds_7 ?_
  refine xg_dup2 (pc := 8) dX7_finds_8 rfl rfl ?_
  refine xg_iald (pc := 9) j dX7_finds_9 hp_66 hc (by omega) (by decide) ?_
  refine xg_iconst (v := 1) (pc := 10) dX7_finds_10 (by decide) ?_
  refine xg_iadd (pc := 11) dX7_finds_11 ?_
  refine xg_iast (pc := 12) (h' := hp lk o mf wf (q.1, q.2.1, upd q.2.2.1 j ((q.2.2.1 j) + 1), q.2.2.2.1, q.2.2.2.2.1, q.2.2.2.2.2.1, q.2.2.2.2.2.2.1, q.2.2.2.2.2.2.2.1, q.2.2.2.2.2.2.2.2.1, q.2.2.2.2.2.2.2.2.2.1, q.2.2.2.2.2.2.2.2.2.2.1, q.2.2.2.2.2.2.2.2.2.2.2.1, q.2.2.2.2.2.2.2.2.2.2.2.2.1, q.2.2.2.2.2.2.2.2.2.2.2.2.2.1, q.2.2.2.2.2.2.2.2.2.2.2.2.2.2)) j dX7_finds_12 hp_66 hc (by omega) (by decide) hs_fo ?_
  refine xg_iload_n (pc := 13) dX7_finds_13 rfl ?_
  exact xg_iret (pc := 14) dX7_finds_14 rfl (⟨by rfl, rfl⟩)
set_option maxRecDepth 100000 in
theorem ev_X7_orNone_neg {v : Int32} (hv : v < 0) : xDv X false (d + 1) mX7_orNone [.ref 62, .int v] (hp lk o mf wf q) [.int (-1000000004)] (hp lk o mf wf (q.1, q.2.1, upd q.2.2.1 3 (q.2.2.1 3 + 1), q.2.2.2.1, q.2.2.2.2.1, q.2.2.2.2.2.1, q.2.2.2.2.2.2.1, q.2.2.2.2.2.2.2.1, q.2.2.2.2.2.2.2.2.1, q.2.2.2.2.2.2.2.2.2.1, q.2.2.2.2.2.2.2.2.2.2.1, q.2.2.2.2.2.2.2.2.2.2.2.1, q.2.2.2.2.2.2.2.2.2.2.2.2.1, q.2.2.2.2.2.2.2.2.2.2.2.2.2.1, q.2.2.2.2.2.2.2.2.2.2.2.2.2.2)) := by
  refine xDv.of (ls := [some (.ref 62), some (.int v)]) mcX7_orNone.1.2.2.2.2 (Nat.le_of_ble_eq_true rfl) rfl ?_
  refine xg_iload_n (pc := 0) dX7_orNone_0 rfl ?_
  refine xg_if_ge (pc := 1) (tgt := 13) dX7_orNone_1 (by decide) (fun c_1 => absurd c_1 (Int32.not_le.mpr hv)) (fun c_1 => ?_)
  refine xg_aload_n (pc := 4) dX7_orNone_4 rfl ?_
  refine xg_ldc (v := -1000000004) (pc := 5) dX7_orNone_5 ccX7_43 ?_
  refine xg_cvI (pc := 7) (h1 := hp lk o mf wf (q.1, q.2.1, upd q.2.2.1 3 (q.2.2.1 3 + 1), q.2.2.2.1, q.2.2.2.2.1, q.2.2.2.2.2.1, q.2.2.2.2.2.2.1, q.2.2.2.2.2.2.2.1, q.2.2.2.2.2.2.2.2.1, q.2.2.2.2.2.2.2.2.2.1, q.2.2.2.2.2.2.2.2.2.2.1, q.2.2.2.2.2.2.2.2.2.2.2.1, q.2.2.2.2.2.2.2.2.2.2.2.2.1, q.2.2.2.2.2.2.2.2.2.2.2.2.2.1, q.2.2.2.2.2.2.2.2.2.2.2.2.2.2)) (x := -1000000004) (M' := mX7_finds) dX7_orNone_7 lkX7_44 mcX7_finds hp_62 rfl (ev_X7_finds (j := 3) (by decide) (by decide)) rfl rfl (Nat.le_of_ble_eq_true rfl) ?_
  refine xg_goto (pc := 10) (tgt := 14) dX7_orNone_10 (by decide) ?_
  exact xg_iret (pc := 14) dX7_orNone_14 rfl (⟨by rfl, rfl⟩)
set_option maxRecDepth 100000 in
theorem ev_X7_orNone_pos {v : Int32} (hv : ¬ v < 0) : xDv X false (d + 1) mX7_orNone [.ref 62, .int v] (hp lk o mf wf q) [.int v] (hp lk o mf wf q) := by
  refine xDv.of (ls := [some (.ref 62), some (.int v)]) mcX7_orNone.1.2.2.2.2 (Nat.le_of_ble_eq_true rfl) rfl ?_
  refine xg_iload_n (pc := 0) dX7_orNone_0 rfl ?_
  refine xg_if_ge (pc := 1) (tgt := 13) dX7_orNone_1 (by decide) (fun c_1 => ?_) (fun c_1 => absurd c_1 (Classical.not_not.mpr (Int32.not_lt.mp hv)))
  refine xg_iload_n (pc := 13) dX7_orNone_13 rfl ?_
  exact xg_iret (pc := 14) dX7_orNone_14 rfl (⟨by rfl, rfl⟩)
set_option maxRecDepth 100000 in
theorem ev_X7_becomes {j : Nat} {v : Int32} (hj : j < 65) : xDv X false (d + 0) mX7_becomes [.ref 62, .int (nI j), .int v] (hp lk o mf wf q) [.int (mf j)] (hp lk o (upd mf j v) wf q) := by
  refine xDv.of (ls := [some (.ref 62), some (.int (nI j)), some (.int v), none]) mcX7_becomes.1.2.2.2.2 (Nat.le_of_ble_eq_true rfl) rfl ?_
  refine xg_aload_n (pc := 0) dX7_becomes_0 rfl ?_
  refine xg_get (pc := 1) dX7_becomes_1 flX7_9 hp_62 rfl ?_
  refine xg_iload_n (pc := 4) dX7_becomes_4 rfl ?_
  refine xg_iald (pc := 5) j dX7_becomes_5 hp_63 rfl (by omega) (by decide) ?_
  refine xg_istore_n (pc := 6) (ls' := [some (.ref 62), some (.int (nI j)), some (.int v), some (.int (mf j))]) dX7_becomes_6 (by decide) rfl ?_
  refine xg_aload_n (pc := 7) dX7_becomes_7 rfl ?_
  refine xg_get (pc := 8) dX7_becomes_8 flX7_9 hp_62 rfl ?_
  refine xg_iload_n (pc := 11) dX7_becomes_11 rfl ?_
  refine xg_iload_n (pc := 12) dX7_becomes_12 rfl ?_
  refine xg_iast (pc := 13) (h' := hp lk o (upd mf j v) wf q) j dX7_becomes_13 hp_63 rfl (by omega) (by decide) hs_mf ?_
  refine xg_iload_n (pc := 14) dX7_becomes_14 rfl ?_
  exact xg_iret (pc := 15) dX7_becomes_15 rfl (⟨by rfl, rfl⟩)
set_option maxRecDepth 100000 in
theorem ev_X7_isThing {t : Int32} : xDv X false (d + 1) mX7_isThing [.ref 62, .int t] (hp lk o mf wf q) [.int (if 0 ≤ t ∧ t ≤ mf 3 - 1 then 1 else 0)] (hp lk o mf wf q) := by
  refine xDv.of (ls := [some (.ref 62), some (.int t)]) mcX7_isThing.1.2.2.2.2 (Nat.le_of_ble_eq_true rfl) rfl ?_
  refine xg_iload_n (pc := 0) dX7_isThing_0 rfl ?_
  refine xg_i2l (pc := 1) dX7_isThing_1 ?_
  refine xg_iconst (v := 0) (pc := 2) dX7_isThing_2 (by decide) ?_
  refine xg_aload_n (pc := 3) dX7_isThing_3 rfl ?_
  refine xg_get (pc := 4) dX7_isThing_4 flX7_9 hp_62 rfl ?_
  refine xg_iconst (v := 3) (pc := 7) dX7_isThing_7 (by decide) ?_
  refine xg_iald (pc := 8) 3 dX7_isThing_8 hp_63 (by simp only [xlit, nI_add, pk_mul]) (by omega) (by decide) ?_
  refine xg_iconst (v := 1) (pc := 9) dX7_isThing_9 (by decide) ?_
  refine xg_isub (pc := 10) dX7_isThing_10 ?_
  refine xg_csI (pc := 11) (h1 := hp lk o mf wf q) (x := if 0 ≤ t ∧ t ≤ ((mf 3) - 1) then 1 else 0) (M' := mX7_in) dX7_isThing_11 lkX7_48 mcX7_in (ev_in) rfl rfl (Nat.le_of_ble_eq_true rfl) ?_
  exact xg_zret (pc := 14) (ty := .boolean) dX7_isThing_14 rfl (by split <;> rfl) (⟨by rfl, rfl⟩)
set_option maxRecDepth 100000 in
theorem ev_X7_isBoat {t : Int32} : xDv X false (d + 1) mX7_isBoat [.ref 62, .int t] (hp lk o mf wf q) [.int (if 0 ≤ t ∧ t ≤ mf 4 - 1 then 1 else 0)] (hp lk o mf wf q) := by
  refine xDv.of (ls := [some (.ref 62), some (.int t)]) mcX7_isBoat.1.2.2.2.2 (Nat.le_of_ble_eq_true rfl) rfl ?_
  refine xg_iload_n (pc := 0) dX7_isBoat_0 rfl ?_
  refine xg_i2l (pc := 1) dX7_isBoat_1 ?_
  refine xg_iconst (v := 0) (pc := 2) dX7_isBoat_2 (by decide) ?_
  refine xg_aload_n (pc := 3) dX7_isBoat_3 rfl ?_
  refine xg_get (pc := 4) dX7_isBoat_4 flX7_9 hp_62 rfl ?_
  refine xg_iconst (v := 4) (pc := 7) dX7_isBoat_7 (by decide) ?_
  refine xg_iald (pc := 8) 4 dX7_isBoat_8 hp_63 (by simp only [xlit, nI_add, pk_mul]) (by omega) (by decide) ?_
  refine xg_iconst (v := 1) (pc := 9) dX7_isBoat_9 (by decide) ?_
  refine xg_isub (pc := 10) dX7_isBoat_10 ?_
  refine xg_csI (pc := 11) (h1 := hp lk o mf wf q) (x := if 0 ≤ t ∧ t ≤ ((mf 4) - 1) then 1 else 0) (M' := mX7_in) dX7_isBoat_11 lkX7_48 mcX7_in (ev_in) rfl rfl (Nat.le_of_ble_eq_true rfl) ?_
  exact xg_zret (pc := 14) (ty := .boolean) dX7_isBoat_14 rfl (by split <;> rfl) (⟨by rfl, rfl⟩)
set_option maxRecDepth 100000 in
theorem ev_X7_isCell {c : Int32} : xDv X false (d + 1) mX7_isCell [.int c] (hp lk o mf wf q) [.int (if 0 ≤ c ∧ c ≤ 47 then 1 else 0)] (hp lk o mf wf q) := by
  refine xDv.of (ls := [some (.int c)]) mcX7_isCell.1.2.2.2.2 (Nat.le_of_ble_eq_true rfl) rfl ?_
  refine xg_iload_n (pc := 0) dX7_isCell_0 rfl ?_
  refine xg_i2l (pc := 1) dX7_isCell_1 ?_
  refine xg_iconst (v := 0) (pc := 2) dX7_isCell_2 (by decide) ?_
  refine xg_bipush (v := 47) (pc := 3) dX7_isCell_3 (by decide) ?_
  refine xg_csI (pc := 5) (h1 := hp lk o mf wf q) (x := if 0 ≤ c ∧ c ≤ 47 then 1 else 0) (M' := mX7_in) dX7_isCell_5 lkX7_48 mcX7_in (ev_in) rfl rfl (Nat.le_of_ble_eq_true rfl) ?_
  exact xg_zret (pc := 8) (ty := .boolean) dX7_isCell_8 rfl (by split <;> rfl) (⟨by rfl, rfl⟩)
set_option maxRecDepth 100000 in
theorem ev_X7_reachOf {t : Nat} (ht : t < 8) : xDv X false (d + 1) mX7_reachOf [.ref 62, .int (nI t)] (hp lk o mf wf q) [.int (rR mf t)] (hp lk o mf wf q) := by
  refine xDv.of (ls := [some (.ref 62), some (.int (nI t)), none, none, none]) mcX7_reachOf.1.2.2.2.2 (Nat.le_of_ble_eq_true rfl) rfl ?_
  refine xg_aload_n (pc := 0) dX7_reachOf_0 rfl ?_
  refine xg_get (pc := 1) dX7_reachOf_1 flX7_9 hp_62 rfl ?_
  refine xg_iconst (v := 0) (pc := 4) dX7_reachOf_4 (by decide) ?_
  refine xg_iald (pc := 5) 0 dX7_reachOf_5 hp_63 (by simp only [xlit, nI_add, pk_mul]) (by omega) (by decide) ?_
  refine xg_bipush (v := 24) (pc := 6) dX7_reachOf_6 (by decide) ?_
  refine xg_irem (pc := 8) dX7_reachOf_8 (by decide) ?_
  refine xg_istore_n (pc := 9) (ls' := [some (.ref 62), some (.int (nI t)), some (.int ((mf 0) - (mf 0) / 24 * 24)), none, none]) dX7_reachOf_9 (by decide) rfl ?_
  refine xg_aload_n (pc := 10) dX7_reachOf_10 rfl ?_
  refine xg_iload_n (pc := 11) dX7_reachOf_11 rfl ?_
  refine xg_iconst (v := 2) (pc := 12) dX7_reachOf_12 (by decide) ?_
  refine xg_cvI (pc := 13) (h1 := hp lk o mf wf q) (x := mf (5 + 5 * t + 2)) (M' := mX7_lit) dX7_reachOf_13 lkX7_52 mcX7_lit hp_62 rfl (ev_X7_lit (t := t) (w := 2) (by omega)) rfl rfl (Nat.le_of_ble_eq_true rfl) ?_
  refine xg_istore_n (pc := 16) (ls' := [some (.ref 62), some (.int (nI t)), some (.int ((mf 0) - (mf 0) / 24 * 24)), some (.int (mf (5 + 5 * t + 2))), none]) dX7_reachOf_16 (by decide) rfl ?_
  refine xg_iload_n (pc := 17) dX7_reachOf_17 rfl ?_
  refine xg_iconst (v := 1) (pc := 18) dX7_reachOf_18 (by decide) ?_
  refine xg_iadd (pc := 19) dX7_reachOf_19 ?_
  refine xg_iconst (v := 0) (pc := 20) dX7_reachOf_20 (by decide) ?_
  refine xg_bipush (v := 6) (pc := 21) dX7_reachOf_21 (by decide) ?_
  refine xg_csI (pc := 23) (h1 := hp lk o mf wf q) (x := cl3 ((mf (5 + 5 * t + 2)) + 1) 0 6) (M' := mX7_held) dX7_reachOf_23 lkX7_56 mcX7_held (ev_X7_held) rfl rfl (Nat.le_of_ble_eq_true rfl) ?_
  refine xg_istore (pc := 26) (ls' := [some (.ref 62), some (.int (nI t)), some (.int ((mf 0) - (mf 0) / 24 * 24)), some (.int (mf (5 + 5 * t + 2))), some (.int (cl3 ((mf (5 + 5 * t + 2)) + 1) 0 6))]) dX7_reachOf_26 (by decide) rfl ?_
  refine xg_aload_n (pc := 28) dX7_reachOf_28 rfl ?_
  refine xg_iload_n (pc := 29) dX7_reachOf_29 rfl ?_
  refine xg_iconst (v := 0) (pc := 30) dX7_reachOf_30 (by decide) ?_
  refine xg_cvI (pc := 31) (h1 := hp lk o mf wf q) (x := mf (5 + 5 * t)) (M' := mX7_lit) dX7_reachOf_31 lkX7_52 mcX7_lit hp_62 rfl (ev_X7_lit (t := t) (w := 0) (by omega)) rfl rfl (Nat.le_of_ble_eq_true rfl) ?_
  by_cases w34_1 : (mf (5 + 5 * t)) = 1
  ·
    refine xg_tswI (pc := 34) 0 (tgt := 68) dX7_reachOf_34 (by rw [w34_1]; rfl) (by decide) rfl (by decide) ?_
    refine xg_iload (pc := 68) dX7_reachOf_68 rfl ?_
    exact xg_iret (pc := 70) dX7_reachOf_70 rfl (⟨by simp [rR, rch, md, *], rfl⟩)
  by_cases w34_2 : (mf (5 + 5 * t)) = 2
  ·
    refine xg_tswI (pc := 34) 1 (tgt := 71) dX7_reachOf_34 (by rw [w34_2]; rfl) (by decide) rfl (by decide) ?_
    refine xg_iload_n (pc := 71) dX7_reachOf_71 rfl ?_
    refine xg_i2l (pc := 72) dX7_reachOf_72 ?_
    refine xg_bipush (v := 8) (pc := 73) dX7_reachOf_73 (by decide) ?_
    refine xg_bipush (v := 17) (pc := 75) dX7_reachOf_75 (by decide) ?_
    refine xg_csI (pc := 77) (h1 := hp lk o mf wf q) (x := if 8 ≤ ((mf 0) - (mf 0) / 24 * 24) ∧ ((mf 0) - (mf 0) / 24 * 24) ≤ 17 then 1 else 0) (M' := mX7_in) dX7_reachOf_77 lkX7_48 mcX7_in (ev_in) rfl rfl (Nat.le_of_ble_eq_true rfl) ?_
    refine xg_bz (pc := 80) (tgt := 87) dX7_reachOf_80 (by decide) (fun c_80 => ?_) (fun c_80 => ?_)
    ·
      refine xg_iconst (v := 0) (pc := 87) dX7_reachOf_87 (by decide) ?_
      exact xg_iret (pc := 88) dX7_reachOf_88 rfl (⟨by simp [rR, rch, md, *], rfl⟩)
    ·
      refine xg_iload_n (pc := 83) dX7_reachOf_83 rfl ?_
      refine xg_goto (pc := 84) (tgt := 88) dX7_reachOf_84 (by decide) ?_
      exact xg_iret (pc := 88) dX7_reachOf_88 rfl (⟨by simp [rR, rch, md, *], rfl⟩)
  by_cases w34_3 : (mf (5 + 5 * t)) = 3
  ·
    refine xg_tswI (pc := 34) 2 (tgt := 89) dX7_reachOf_34 (by rw [w34_3]; rfl) (by decide) rfl (by decide) ?_
    refine xg_iload_n (pc := 89) dX7_reachOf_89 rfl ?_
    refine xg_i2l (pc := 90) dX7_reachOf_90 ?_
    refine xg_bipush (v := 6) (pc := 91) dX7_reachOf_91 (by decide) ?_
    refine xg_bipush (v := 17) (pc := 93) dX7_reachOf_93 (by decide) ?_
    refine xg_csI (pc := 95) (h1 := hp lk o mf wf q) (x := if 6 ≤ ((mf 0) - (mf 0) / 24 * 24) ∧ ((mf 0) - (mf 0) / 24 * 24) ≤ 17 then 1 else 0) (M' := mX7_in) dX7_reachOf_95 lkX7_48 mcX7_in (ev_in) rfl rfl (Nat.le_of_ble_eq_true rfl) ?_
    refine xg_bz (pc := 98) (tgt := 105) dX7_reachOf_98 (by decide) (fun c_98 => ?_) (fun c_98 => ?_)
    ·
      refine xg_bipush (v := 6) (pc := 105) dX7_reachOf_105 (by decide) ?_
      exact xg_iret (pc := 107) dX7_reachOf_107 rfl (⟨by simp [rR, rch, md, *], rfl⟩)
    ·
      refine xg_iconst (v := 0) (pc := 101) dX7_reachOf_101 (by decide) ?_
      refine xg_goto (pc := 102) (tgt := 107) dX7_reachOf_102 (by decide) ?_
      exact xg_iret (pc := 107) dX7_reachOf_107 rfl (⟨by simp [rR, rch, md, *], rfl⟩)
  by_cases w34_4 : (mf (5 + 5 * t)) = 4
  ·
    refine xg_tswI (pc := 34) 3 (tgt := 108) dX7_reachOf_34 (by rw [w34_4]; rfl) (by decide) rfl (by decide) ?_
    refine xg_aload_n (pc := 108) dX7_reachOf_108 rfl ?_
    refine xg_get (pc := 109) dX7_reachOf_109 flX7_9 hp_62 rfl ?_
    refine xg_iconst (v := 0) (pc := 112) dX7_reachOf_112 (by decide) ?_
    refine xg_iald (pc := 113) 0 dX7_reachOf_113 hp_63 (by simp only [xlit, nI_add, pk_mul]) (by omega) (by decide) ?_
    refine xg_iconst (v := 2) (pc := 114) dX7_reachOf_114 (by decide) ?_
    refine xg_irem (pc := 115) dX7_reachOf_115 (by decide) ?_
    refine xg_if_ne (pc := 116) (tgt := 124) dX7_reachOf_116 (by decide) (fun c_116 => ?_) (fun c_116 => ?_)
    ·
      refine xg_iload (pc := 124) dX7_reachOf_124 rfl ?_
      refine xg_iconst (v := 2) (pc := 126) dX7_reachOf_126 (by decide) ?_
      refine xg_idiv (pc := 127) dX7_reachOf_127 (by decide) ?_
      exact xg_iret (pc := 128) dX7_reachOf_128 rfl (⟨by simp [rR, rch, md, *], rfl⟩)
    ·
      refine xg_iload (pc := 119) dX7_reachOf_119 rfl ?_
      refine xg_goto (pc := 121) (tgt := 128) dX7_reachOf_121 (by decide) ?_
      exact xg_iret (pc := 128) dX7_reachOf_128 rfl (⟨by simp [rR, rch, md, *], rfl⟩)
  by_cases w34_5 : (mf (5 + 5 * t)) = 5
  ·
    refine xg_tswI (pc := 34) 4 (tgt := 71) dX7_reachOf_34 (by rw [w34_5]; rfl) (by decide) rfl (by decide) ?_
    refine xg_iload_n (pc := 71) dX7_reachOf_71 rfl ?_
    refine xg_i2l (pc := 72) dX7_reachOf_72 ?_
    refine xg_bipush (v := 8) (pc := 73) dX7_reachOf_73 (by decide) ?_
    refine xg_bipush (v := 17) (pc := 75) dX7_reachOf_75 (by decide) ?_
    refine xg_csI (pc := 77) (h1 := hp lk o mf wf q) (x := if 8 ≤ ((mf 0) - (mf 0) / 24 * 24) ∧ ((mf 0) - (mf 0) / 24 * 24) ≤ 17 then 1 else 0) (M' := mX7_in) dX7_reachOf_77 lkX7_48 mcX7_in (ev_in) rfl rfl (Nat.le_of_ble_eq_true rfl) ?_
    refine xg_bz (pc := 80) (tgt := 87) dX7_reachOf_80 (by decide) (fun c_80 => ?_) (fun c_80 => ?_)
    ·
      refine xg_iconst (v := 0) (pc := 87) dX7_reachOf_87 (by decide) ?_
      exact xg_iret (pc := 88) dX7_reachOf_88 rfl (⟨by simp [rR, rch, md, *], rfl⟩)
    ·
      refine xg_iload_n (pc := 83) dX7_reachOf_83 rfl ?_
      refine xg_goto (pc := 84) (tgt := 88) dX7_reachOf_84 (by decide) ?_
      exact xg_iret (pc := 88) dX7_reachOf_88 rfl (⟨by simp [rR, rch, md, *], rfl⟩)
  refine xg_tswO (pc := 34) (tgt := 129) dX7_reachOf_34 (by have := lv_neT (a := 1) w34_1 (by decide); have := lv_neT (a := 2) w34_2 (by decide); have := lv_neT (a := 3) w34_3 (by decide); have := lv_neT (a := 4) w34_4 (by decide); have := lv_neT (a := 5) w34_5 (by decide); omega) (by decide) ?_
  refine xg_iload_n (pc := 129) dX7_reachOf_129 rfl ?_
  exact xg_iret (pc := 130) dX7_reachOf_130 rfl (⟨by simp [rR, rch, md, *], rfl⟩)
set_option maxRecDepth 100000 in
theorem ev_X7_taxOf {t : Nat} (ht : t < 8) : xDv X false (d + 1) mX7_taxOf [.ref 62, .int (nI t)] (hp lk o mf wf q) [.int (txd (mf (5 + 5 * t)) (mf (5 + 5 * t + 4)))] (hp lk o mf wf q) := by
  refine xDv.of (ls := [some (.ref 62), some (.int (nI t))]) mcX7_taxOf.1.2.2.2.2 (Nat.le_of_ble_eq_true rfl) rfl ?_
  refine xg_aload_n (pc := 0) dX7_taxOf_0 rfl ?_
  refine xg_iload_n (pc := 1) dX7_taxOf_1 rfl ?_
  refine xg_iconst (v := 0) (pc := 2) dX7_taxOf_2 (by decide) ?_
  refine xg_cvI (pc := 3) (h1 := hp lk o mf wf q) (x := mf (5 + 5 * t)) (M' := mX7_lit) dX7_taxOf_3 lkX7_52 mcX7_lit hp_62 rfl (ev_X7_lit (t := t) (w := 0) (by omega)) rfl rfl (Nat.le_of_ble_eq_true rfl) ?_
  by_cases w6_2 : (mf (5 + 5 * t)) = 2
  ·
    refine xg_tswI (pc := 6) 0 (tgt := 36) dX7_taxOf_6 (by rw [w6_2]; rfl) (by decide) rfl (by decide) ?_
    refine xg_aload_n (pc := 36) dX7_taxOf_36 rfl ?_
    refine xg_iload_n (pc := 37) dX7_taxOf_37 rfl ?_
    refine xg_iconst (v := 4) (pc := 38) dX7_taxOf_38 (by decide) ?_
    refine xg_cvI (pc := 39) (h1 := hp lk o mf wf q) (x := mf (5 + 5 * t + 4)) (M' := mX7_lit) dX7_taxOf_39 lkX7_52 mcX7_lit hp_62 rfl (ev_X7_lit (t := t) (w := 4) (by omega)) rfl rfl (Nat.le_of_ble_eq_true rfl) ?_
    refine xg_iconst (v := 2) (pc := 42) dX7_taxOf_42 (by decide) ?_
    refine xg_iadd (pc := 43) dX7_taxOf_43 ?_
    exact xg_iret (pc := 44) dX7_taxOf_44 rfl (⟨by simp [txd, *], rfl⟩)
  by_cases w6_3 : (mf (5 + 5 * t)) = 3
  ·
    refine xg_tswI (pc := 6) 1 (tgt := 45) dX7_taxOf_6 (by rw [w6_3]; rfl) (by decide) rfl (by decide) ?_
    refine xg_iconst (v := 0) (pc := 45) dX7_taxOf_45 (by decide) ?_
    exact xg_iret (pc := 46) dX7_taxOf_46 rfl (⟨by simp [txd, *], rfl⟩)
  by_cases w6_4 : (mf (5 + 5 * t)) = 4
  ·
    refine xg_tswI (pc := 6) 2 (tgt := 58) dX7_taxOf_6 (by rw [w6_4]; rfl) (by decide) rfl (by decide) ?_
    refine xg_aload_n (pc := 58) dX7_taxOf_58 rfl ?_
    refine xg_iload_n (pc := 59) dX7_taxOf_59 rfl ?_
    refine xg_iconst (v := 4) (pc := 60) dX7_taxOf_60 (by decide) ?_
    refine xg_cvI (pc := 61) (h1 := hp lk o mf wf q) (x := mf (5 + 5 * t + 4)) (M' := mX7_lit) dX7_taxOf_61 lkX7_52 mcX7_lit hp_62 rfl (ev_X7_lit (t := t) (w := 4) (by omega)) rfl rfl (Nat.le_of_ble_eq_true rfl) ?_
    exact xg_iret (pc := 64) dX7_taxOf_64 rfl (⟨by simp [txd, *], rfl⟩)
  by_cases w6_5 : (mf (5 + 5 * t)) = 5
  ·
    refine xg_tswI (pc := 6) 3 (tgt := 47) dX7_taxOf_6 (by rw [w6_5]; rfl) (by decide) rfl (by decide) ?_
    refine xg_iconst (v := 2) (pc := 47) dX7_taxOf_47 (by decide) ?_
    refine xg_aload_n (pc := 48) dX7_taxOf_48 rfl ?_
    refine xg_iload_n (pc := 49) dX7_taxOf_49 rfl ?_
    refine xg_iconst (v := 4) (pc := 50) dX7_taxOf_50 (by decide) ?_
    refine xg_cvI (pc := 51) (h1 := hp lk o mf wf q) (x := mf (5 + 5 * t + 4)) (M' := mX7_lit) dX7_taxOf_51 lkX7_52 mcX7_lit hp_62 rfl (ev_X7_lit (t := t) (w := 4) (by omega)) rfl rfl (Nat.le_of_ble_eq_true rfl) ?_
    refine xg_iconst (v := 2) (pc := 54) dX7_taxOf_54 (by decide) ?_
    refine xg_iadd (pc := 55) dX7_taxOf_55 ?_
    refine xg_imul (pc := 56) dX7_taxOf_56 ?_
    exact xg_iret (pc := 57) dX7_taxOf_57 rfl (⟨by simp [txd, *], rfl⟩)
  refine xg_tswO (pc := 6) (tgt := 58) dX7_taxOf_6 (by have := lv_neT (a := 2) w6_2 (by decide); have := lv_neT (a := 3) w6_3 (by decide); have := lv_neT (a := 4) w6_4 (by decide); have := lv_neT (a := 5) w6_5 (by decide); omega) (by decide) ?_
  refine xg_aload_n (pc := 58) dX7_taxOf_58 rfl ?_
  refine xg_iload_n (pc := 59) dX7_taxOf_59 rfl ?_
  refine xg_iconst (v := 4) (pc := 60) dX7_taxOf_60 (by decide) ?_
  refine xg_cvI (pc := 61) (h1 := hp lk o mf wf q) (x := mf (5 + 5 * t + 4)) (M' := mX7_lit) dX7_taxOf_61 lkX7_52 mcX7_lit hp_62 rfl (ev_X7_lit (t := t) (w := 4) (by omega)) rfl rfl (Nat.le_of_ble_eq_true rfl) ?_
  exact xg_iret (pc := 64) dX7_taxOf_64 rfl (⟨by simp [txd, *], rfl⟩)
set_option maxRecDepth 100000 in
theorem ev_X7_isMirrored {t : Nat} {c : Int32} (ht : t < 8) : xDv X false (d + 2) mX7_isMirrored [.ref 62, .int (nI t), .int c] (hp lk o mf wf q) [.int (if mirR mf t c then 1 else 0)] (hp lk o mf wf q) := by
  refine xDv.of (ls := [some (.ref 62), some (.int (nI t)), some (.int c)]) mcX7_isMirrored.1.2.2.2.2 (Nat.le_of_ble_eq_true rfl) rfl ?_
  refine xg_aload_n (pc := 0) dX7_isMirrored_0 rfl ?_
  refine xg_iload_n (pc := 1) dX7_isMirrored_1 rfl ?_
  refine xg_iconst (v := 1) (pc := 2) dX7_isMirrored_2 (by decide) ?_
  refine xg_cvI (pc := 3) (h1 := hp lk o mf wf q) (x := mf (5 + 5 * t + 1)) (M' := mX7_lit) dX7_isMirrored_3 lkX7_52 mcX7_lit hp_62 rfl (ev_X7_lit (t := t) (w := 1) (by omega)) rfl rfl (Nat.le_of_ble_eq_true rfl) ?_
  refine xg_iload_n (pc := 6) dX7_isMirrored_6 rfl ?_
  refine xg_bipush (v := 8) (pc := 7) dX7_isMirrored_7 (by decide) ?_
  refine xg_irem (pc := 9) dX7_isMirrored_9 (by decide) ?_
  refine xg_icmp_ne (pc := 10) (tgt := 29) dX7_isMirrored_10 (by decide) (fun c_10 => ?_) (fun c_10 => ?_)
  ·
    refine xg_iconst (v := 0) (pc := 29) dX7_isMirrored_29 (by decide) ?_
    exact xg_zret (pc := 30) (ty := .boolean) dX7_isMirrored_30 rfl rfl (⟨by simp_all [mirR, md], rfl⟩)
  ·
    refine xg_iload_n (pc := 13) dX7_isMirrored_13 rfl ?_
    refine xg_bipush (v := 8) (pc := 14) dX7_isMirrored_14 (by decide) ?_
    refine xg_idiv (pc := 16) dX7_isMirrored_16 (by decide) ?_
    refine xg_aload_n (pc := 17) dX7_isMirrored_17 rfl ?_
    refine xg_iload_n (pc := 18) dX7_isMirrored_18 rfl ?_
    refine xg_cvI (pc := 19) (h1 := hp lk o mf wf q) (x := rR mf t) (M' := mX7_reachOf) dX7_isMirrored_19 lkX7_60 mcX7_reachOf hp_62 rfl (ev_X7_reachOf (t := t) (by omega)) rfl rfl (Nat.le_of_ble_eq_true rfl) ?_
    refine xg_icmp_ge (pc := 22) (tgt := 29) dX7_isMirrored_22 (by decide) (fun c_22 => ?_) (fun c_22 => ?_)
    ·
      refine xg_iconst (v := 0) (pc := 29) dX7_isMirrored_29 (by decide) ?_
      exact xg_zret (pc := 30) (ty := .boolean) dX7_isMirrored_30 rfl rfl (⟨by simp_all [mirR, md], rfl⟩)
    ·
      refine xg_iconst (v := 1) (pc := 25) dX7_isMirrored_25 (by decide) ?_
      refine xg_goto (pc := 26) (tgt := 30) dX7_isMirrored_26 (by decide) ?_
      exact xg_zret (pc := 30) (ty := .boolean) dX7_isMirrored_30 rfl rfl (⟨by simp_all [mirR, md], rfl⟩)
set_option maxRecDepth 100000 in
theorem ev_X7_isRippled {c : Int32} : xDv X false (d + 0) mX7_isRippled [.ref 62, .int c] (hp lk o mf wf q) [.int (if rip mf c then 1 else 0)] (hp lk o mf wf q) := by
  refine xDv.of (ls := [some (.ref 62), some (.int c)]) mcX7_isRippled.1.2.2.2.2 (Nat.le_of_ble_eq_true rfl) rfl ?_
  refine xg_aload_n (pc := 0) dX7_isRippled_0 rfl ?_
  refine xg_get (pc := 1) dX7_isRippled_1 flX7_9 hp_62 rfl ?_
  refine xg_iconst (v := 1) (pc := 4) dX7_isRippled_4 (by decide) ?_
  refine xg_iald (pc := 5) 1 dX7_isRippled_5 hp_63 (by simp only [xlit, nI_add, pk_mul]) (by omega) (by decide) ?_
  refine xg_iload_n (pc := 6) dX7_isRippled_6 rfl ?_
  refine xg_bipush (v := 8) (pc := 7) dX7_isRippled_7 (by decide) ?_
  refine xg_irem (pc := 9) dX7_isRippled_9 (by decide) ?_
  refine xg_ishr (pc := 10) dX7_isRippled_10 ?_
  refine xg_iconst (v := 1) (pc := 11) dX7_isRippled_11 (by decide) ?_
  refine xg_iand (pc := 12) dX7_isRippled_12 ?_
  refine xg_iconst (v := 1) (pc := 13) dX7_isRippled_13 (by decide) ?_
  refine xg_icmp_ne (pc := 14) (tgt := 21) dX7_isRippled_14 (by decide) (fun c_14 => ?_) (fun c_14 => ?_)
  ·
    refine xg_iconst (v := 0) (pc := 21) dX7_isRippled_21 (by decide) ?_
    exact xg_zret (pc := 22) (ty := .boolean) dX7_isRippled_22 rfl rfl (⟨by simp_all [rip, md], rfl⟩)
  ·
    refine xg_iconst (v := 1) (pc := 17) dX7_isRippled_17 (by decide) ?_
    refine xg_goto (pc := 18) (tgt := 22) dX7_isRippled_18 (by decide) ?_
    exact xg_zret (pc := 22) (ty := .boolean) dX7_isRippled_22 rfl rfl (⟨by simp_all [rip, md], rfl⟩)
end
