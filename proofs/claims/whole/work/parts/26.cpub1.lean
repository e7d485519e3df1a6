section
variable {X : xS} {d : Nat} {o : xO} {mf wf : Nat → Int32} {q : xQ} {f0 f1 f2 : Nat → Int32}
set_option maxRecDepth 100000 in
theorem ev_X6_isWithin {v a b : Int32} : xDv X false (d + 0) mX6_isWithin [.int v, .int a, .int b] (hp (tri f0 f1 f2) o mf wf q) [.int (if a ≤ v ∧ v ≤ b then 1 else 0)] (hp (tri f0 f1 f2) o mf wf q) := by
  refine xDv.of (ls := [some (.int v), some (.int a), some (.int b)]) mcX6_isWithin.1.2.2.2.2 (Nat.le_of_ble_eq_true rfl) rfl ?_
  refine xg_iload_n (pc := 0) dX6_isWithin_0 rfl ?_
  refine xg_iload_n (pc := 1) dX6_isWithin_1 rfl ?_
  refine xg_icmp_lt (pc := 2) (tgt := 14) dX6_isWithin_2 (by decide) (fun c_2 => ?_) (fun c_2 => ?_)
  ·
    refine xg_iconst (v := 0) (pc := 14) dX6_isWithin_14 (by decide) ?_
    exact xg_zret (pc := 15) (ty := .boolean) dX6_isWithin_15 rfl rfl (⟨by (try simp only [] at *); (try simp only [← Int32.not_le, ← Int64.not_le, Classical.not_not] at *); first | (simp [*]; done) | (simp_all; done) | (exfalso; simp only [Int32.lt_iff_toInt_lt, Int32.le_iff_toInt_le, Int32.not_lt, Int32.not_le, ← Int32.toInt_inj, Int64.lt_iff_toInt_lt, Int64.le_iff_toInt_le, Int64.not_lt, Int64.not_le, Classical.not_not, Int32.reduceToInt, Int64.reduceToInt] at *; omega), rfl⟩)
  ·
    refine xg_iload_n (pc := 5) dX6_isWithin_5 rfl ?_
    refine xg_iload_n (pc := 6) dX6_isWithin_6 rfl ?_
    refine xg_icmp_gt (pc := 7) (tgt := 14) dX6_isWithin_7 (by decide) (fun c_7 => ?_) (fun c_7 => ?_)
    ·
      refine xg_iconst (v := 0) (pc := 14) dX6_isWithin_14 (by decide) ?_
      exact xg_zret (pc := 15) (ty := .boolean) dX6_isWithin_15 rfl rfl (⟨by (try simp only [] at *); (try simp only [← Int32.not_le, ← Int64.not_le, Classical.not_not] at *); first | (simp [*]; done) | (simp_all; done) | (exfalso; simp only [Int32.lt_iff_toInt_lt, Int32.le_iff_toInt_le, Int32.not_lt, Int32.not_le, ← Int32.toInt_inj, Int64.lt_iff_toInt_lt, Int64.le_iff_toInt_le, Int64.not_lt, Int64.not_le, Classical.not_not, Int32.reduceToInt, Int64.reduceToInt] at *; omega), rfl⟩)
    ·
      refine xg_iconst (v := 1) (pc := 10) dX6_isWithin_10 (by decide) ?_
      refine xg_goto (pc := 11) (tgt := 15) dX6_isWithin_11 (by decide) ?_
      exact xg_zret (pc := 15) (ty := .boolean) dX6_isWithin_15 rfl rfl (⟨by (try simp only [] at *); (try simp only [← Int32.not_le, ← Int64.not_le, Classical.not_not] at *); first | (simp [*]; done) | (simp_all; done) | (exfalso; simp only [Int32.lt_iff_toInt_lt, Int32.le_iff_toInt_le, Int32.not_lt, Int32.not_le, ← Int32.toInt_inj, Int64.lt_iff_toInt_lt, Int64.le_iff_toInt_le, Int64.not_lt, Int64.not_le, Classical.not_not, Int32.reduceToInt, Int64.reduceToInt] at *; omega), rfl⟩)
set_option maxRecDepth 100000 in
theorem ev_X6_isCell {v : Int32} : xDv X false (d + 1) mX6_isCell [.int v] (hp (tri f0 f1 f2) o mf wf q) [.int (if 0 ≤ v ∧ v ≤ 47 then 1 else 0)] (hp (tri f0 f1 f2) o mf wf q) := by
  refine xDv.of (ls := [some (.int v)]) mcX6_isCell.1.2.2.2.2 (Nat.le_of_ble_eq_true rfl) rfl ?_
  refine xg_iload_n (pc := 0) dX6_isCell_0 rfl ?_
  refine xg_iconst (v := 0) (pc := 1) dX6_isCell_1 (by decide) ?_
  refine xg_bipush (v := 47) (pc := 2) dX6_isCell_2 (by decide) ?_
  refine xg_csI (pc := 4) (h1 := hp (tri f0 f1 f2) o mf wf q) (x := if 0 ≤ v ∧ v ≤ 47 then 1 else 0) (M' := mX6_isWithin) dX6_isCell_4 lkX6_53 mcX6_isWithin (ev_X6_isWithin) rfl rfl (Nat.le_of_ble_eq_true rfl) ?_
  exact xg_zret (pc := 7) (ty := .boolean) dX6_isCell_7 rfl (by split <;> rfl) (⟨by rfl, rfl⟩)
set_option maxRecDepth 100000 in
theorem ev_X6_isColumn {v : Int32} : xDv X false (d + 1) mX6_isColumn [.int v] (hp (tri f0 f1 f2) o mf wf q) [.int (if 0 ≤ v ∧ v ≤ 7 then 1 else 0)] (hp (tri f0 f1 f2) o mf wf q) := by
  refine xDv.of (ls := [some (.int v)]) mcX6_isColumn.1.2.2.2.2 (Nat.le_of_ble_eq_true rfl) rfl ?_
  refine xg_iload_n (pc := 0) dX6_isColumn_0 rfl ?_
  refine xg_iconst (v := 0) (pc := 1) dX6_isColumn_1 (by decide) ?_
  refine xg_bipush (v := 7) (pc := 2) dX6_isColumn_2 (by decide) ?_
  refine xg_csI (pc := 4) (h1 := hp (tri f0 f1 f2) o mf wf q) (x := if 0 ≤ v ∧ v ≤ 7 then 1 else 0) (M' := mX6_isWithin) dX6_isColumn_4 lkX6_53 mcX6_isWithin (ev_X6_isWithin) rfl rfl (Nat.le_of_ble_eq_true rfl) ?_
  exact xg_zret (pc := 7) (ty := .boolean) dX6_isColumn_7 rfl (by split <;> rfl) (⟨by rfl, rfl⟩)
set_option maxRecDepth 100000 in
theorem ev_X6_isKind {v : Int32} : xDv X false (d + 1) mX6_isKind [.int v] (hp (tri f0 f1 f2) o mf wf q) [.int (if 0 ≤ v ∧ v ≤ 5 then 1 else 0)] (hp (tri f0 f1 f2) o mf wf q) := by
  refine xDv.of (ls := [some (.int v)]) mcX6_isKind.1.2.2.2.2 (Nat.le_of_ble_eq_true rfl) rfl ?_
  refine xg_iload_n (pc := 0) dX6_isKind_0 rfl ?_
  refine xg_iconst (v := 0) (pc := 1) dX6_isKind_1 (by decide) ?_
  refine xg_iconst (v := 5) (pc := 2) dX6_isKind_2 (by decide) ?_
  refine xg_csI (pc := 3) (h1 := hp (tri f0 f1 f2) o mf wf q) (x := if 0 ≤ v ∧ v ≤ 5 then 1 else 0) (M' := mX6_isWithin) dX6_isKind_3 lkX6_53 mcX6_isWithin (ev_X6_isWithin) rfl rfl (Nat.le_of_ble_eq_true rfl) ?_
  exact xg_zret (pc := 6) (ty := .boolean) dX6_isKind_6 rfl (by split <;> rfl) (⟨by rfl, rfl⟩)
set_option maxRecDepth 100000 in
theorem ev_X6_isSheet {v : Int32} : xDv X false (d + 1) mX6_isSheet [.int v] (hp (tri f0 f1 f2) o mf wf q) [.int (if 0 ≤ v ∧ v ≤ 3 then 1 else 0)] (hp (tri f0 f1 f2) o mf wf q) := by
  refine xDv.of (ls := [some (.int v)]) mcX6_isSheet.1.2.2.2.2 (Nat.le_of_ble_eq_true rfl) rfl ?_
  refine xg_iload_n (pc := 0) dX6_isSheet_0 rfl ?_
  refine xg_iconst (v := 0) (pc := 1) dX6_isSheet_1 (by decide) ?_
  refine xg_iconst (v := 3) (pc := 2) dX6_isSheet_2 (by decide) ?_
  refine xg_csI (pc := 3) (h1 := hp (tri f0 f1 f2) o mf wf q) (x := if 0 ≤ v ∧ v ≤ 3 then 1 else 0) (M' := mX6_isWithin) dX6_isSheet_3 lkX6_53 mcX6_isWithin (ev_X6_isWithin) rfl rfl (Nat.le_of_ble_eq_true rfl) ?_
  exact xg_zret (pc := 6) (ty := .boolean) dX6_isSheet_6 rfl (by split <;> rfl) (⟨by rfl, rfl⟩)
set_option maxRecDepth 100000 in
theorem ev_X6_isThing {v : Int32} : xDv X false (d + 0) mX6_isThing [.ref 0, .int v] (hp (tri f0 f1 f2) o mf wf q) [.int (if 0 ≤ v ∧ v < f0 3 then 1 else 0)] (hp (tri f0 f1 f2) o mf wf q) := by
  refine xDv.of (ls := [some (.ref 0), some (.int v)]) mcX6_isThing.1.2.2.2.2 (Nat.le_of_ble_eq_true rfl) rfl ?_
  refine xg_iload_n (pc := 0) dX6_isThing_0 rfl ?_
  refine xg_if_lt (pc := 1) (tgt := 19) dX6_isThing_1 (by decide) (fun c_1 => ?_) (fun c_1 => ?_)
  ·
    refine xg_iconst (v := 0) (pc := 19) dX6_isThing_19 (by decide) ?_
    exact xg_zret (pc := 20) (ty := .boolean) dX6_isThing_20 rfl rfl (⟨by (try simp only [] at *); (try simp only [← Int32.not_le, ← Int64.not_le, Classical.not_not] at *); first | (simp [*]; done) | (simp_all; done) | (exfalso; simp only [Int32.lt_iff_toInt_lt, Int32.le_iff_toInt_le, Int32.not_lt, Int32.not_le, ← Int32.toInt_inj, Int64.lt_iff_toInt_lt, Int64.le_iff_toInt_le, Int64.not_lt, Int64.not_le, Classical.not_not, Int32.reduceToInt, Int64.reduceToInt] at *; omega), rfl⟩)
  ·
    refine xg_iload_n (pc := 4) dX6_isThing_4 rfl ?_
    refine xg_aload_n (pc := 5) dX6_isThing_5 rfl ?_
    refine xg_get (pc := 6) dX6_isThing_6 flX6_10 hp_0 rfl ?_
    refine xg_get (pc := 9) dX6_isThing_9 flX6_91 (hp_lake0 ) rfl ?_
    refine xg_icmp_ge (pc := 12) (tgt := 19) dX6_isThing_12 (by decide) (fun c_12 => ?_) (fun c_12 => ?_)
    ·
      refine xg_iconst (v := 0) (pc := 19) dX6_isThing_19 (by decide) ?_
      exact xg_zret (pc := 20) (ty := .boolean) dX6_isThing_20 rfl rfl (⟨by (try simp only [] at *); (try simp only [← Int32.not_le, ← Int64.not_le, Classical.not_not] at *); first | (simp [*]; done) | (simp_all; done) | (exfalso; simp only [Int32.lt_iff_toInt_lt, Int32.le_iff_toInt_le, Int32.not_lt, Int32.not_le, ← Int32.toInt_inj, Int64.lt_iff_toInt_lt, Int64.le_iff_toInt_le, Int64.not_lt, Int64.not_le, Classical.not_not, Int32.reduceToInt, Int64.reduceToInt] at *; omega), rfl⟩)
    ·
      refine xg_iconst (v := 1) (pc := 15) dX6_isThing_15 (by decide) ?_
      refine xg_goto (pc := 16) (tgt := 20) dX6_isThing_16 (by decide) ?_
      exact xg_zret (pc := 20) (ty := .boolean) dX6_isThing_20 rfl rfl (⟨by (try simp only [] at *); (try simp only [← Int32.not_le, ← Int64.not_le, Classical.not_not] at *); first | (simp [*]; done) | (simp_all; done) | (exfalso; simp only [Int32.lt_iff_toInt_lt, Int32.le_iff_toInt_le, Int32.not_lt, Int32.not_le, ← Int32.toInt_inj, Int64.lt_iff_toInt_lt, Int64.le_iff_toInt_le, Int64.not_lt, Int64.not_le, Classical.not_not, Int32.reduceToInt, Int64.reduceToInt] at *; omega), rfl⟩)
set_option maxRecDepth 100000 in
theorem ev_X6_isBoat {v : Int32} : xDv X false (d + 0) mX6_isBoat [.ref 0, .int v] (hp (tri f0 f1 f2) o mf wf q) [.int (if 0 ≤ v ∧ v < f0 4 then 1 else 0)] (hp (tri f0 f1 f2) o mf wf q) := by
  refine xDv.of (ls := [some (.ref 0), some (.int v)]) mcX6_isBoat.1.2.2.2.2 (Nat.le_of_ble_eq_true rfl) rfl ?_
  refine xg_iload_n (pc := 0) dX6_isBoat_0 rfl ?_
  refine xg_if_lt (pc := 1) (tgt := 19) dX6_isBoat_1 (by decide) (fun c_1 => ?_) (fun c_1 => ?_)
  ·
    refine xg_iconst (v := 0) (pc := 19) dX6_isBoat_19 (by decide) ?_
    exact xg_zret (pc := 20) (ty := .boolean) dX6_isBoat_20 rfl rfl (⟨by (try simp only [] at *); (try simp only [← Int32.not_le, ← Int64.not_le, Classical.not_not] at *); first | (simp [*]; done) | (simp_all; done) | (exfalso; simp only [Int32.lt_iff_toInt_lt, Int32.le_iff_toInt_le, Int32.not_lt, Int32.not_le, ← Int32.toInt_inj, Int64.lt_iff_toInt_lt, Int64.le_iff_toInt_le, Int64.not_lt, Int64.not_le, Classical.not_not, Int32.reduceToInt, Int64.reduceToInt] at *; omega), rfl⟩)
  ·
    refine xg_iload_n (pc := 4) dX6_isBoat_4 rfl ?_
    refine xg_aload_n (pc := 5) dX6_isBoat_5 rfl ?_
    refine xg_get (pc := 6) dX6_isBoat_6 flX6_10 hp_0 rfl ?_
    refine xg_get (pc := 9) dX6_isBoat_9 flX6_140 (hp_lake0 ) rfl ?_
    refine xg_icmp_ge (pc := 12) (tgt := 19) dX6_isBoat_12 (by decide) (fun c_12 => ?_) (fun c_12 => ?_)
    ·
      refine xg_iconst (v := 0) (pc := 19) dX6_isBoat_19 (by decide) ?_
      exact xg_zret (pc := 20) (ty := .boolean) dX6_isBoat_20 rfl rfl (⟨by (try simp only [] at *); (try simp only [← Int32.not_le, ← Int64.not_le, Classical.not_not] at *); first | (simp [*]; done) | (simp_all; done) | (exfalso; simp only [Int32.lt_iff_toInt_lt, Int32.le_iff_toInt_le, Int32.not_lt, Int32.not_le, ← Int32.toInt_inj, Int64.lt_iff_toInt_lt, Int64.le_iff_toInt_le, Int64.not_lt, Int64.not_le, Classical.not_not, Int32.reduceToInt, Int64.reduceToInt] at *; omega), rfl⟩)
    ·
      refine xg_iconst (v := 1) (pc := 15) dX6_isBoat_15 (by decide) ?_
      refine xg_goto (pc := 16) (tgt := 20) dX6_isBoat_16 (by decide) ?_
      exact xg_zret (pc := 20) (ty := .boolean) dX6_isBoat_20 rfl rfl (⟨by (try simp only [] at *); (try simp only [← Int32.not_le, ← Int64.not_le, Classical.not_not] at *); first | (simp [*]; done) | (simp_all; done) | (exfalso; simp only [Int32.lt_iff_toInt_lt, Int32.le_iff_toInt_le, Int32.not_lt, Int32.not_le, ← Int32.toInt_inj, Int64.lt_iff_toInt_lt, Int64.le_iff_toInt_le, Int64.not_lt, Int64.not_le, Classical.not_not, Int32.reduceToInt, Int64.reduceToInt] at *; omega), rfl⟩)
set_option maxRecDepth 100000 in
theorem ev_X6_finding {c : Int32} {j : Nat} (hc : -1000000001 - c = nI j) (hj : j < 7) : xDv X false (d + 0) mX6_finding [.ref 0, .int c] (hp (tri f0 f1 f2) o mf wf q) [.int c] (hp (tri f0 f1 f2) (o.1, upd o.2.1 j (o.2.1 j + 1), o.2.2.1, o.2.2.2.1, o.2.2.2.2.1, o.2.2.2.2.2.1, o.2.2.2.2.2.2.1, o.2.2.2.2.2.2.2.1, o.2.2.2.2.2.2.2.2.1, o.2.2.2.2.2.2.2.2.2.1, o.2.2.2.2.2.2.2.2.2.2) mf wf q) := by
  refine xDv.of (ls := [some (.ref 0), some (.int c), none]) mcX6_finding.1.2.2.2.2 (Nat.le_of_ble_eq_true rfl) rfl ?_
  refine xg_ldc (v := -1000000001) (pc := 0) dX6_finding_0 ccX6_64 ?_
  refine xg_iload_n (pc := 2) dX6_finding_2 rfl ?_
  refine xg_isub (pc := 3) dX6_finding_3 ?_
  refine xg_eq hc ?_
  refine xg_istore_n (pc := 4) (ls' := [some (.ref 0), some (.int c), some (.int (nI j))]) dX6_finding_4 (by decide) rfl ?_
  refine xg_iload_n (pc := 5) dX6_finding_5 rfl ?_
  refine xg_if_lt (pc := 6) (tgt := 25) dX6_finding_6 (by decide) (fun c_6 => absurd c_6 (nI_pos (by omega))) (fun c_6 => ?_)
  refine xg_iload_n (pc := 9) dX6_finding_9 rfl ?_
  refine xg_bipush (v := 7) (pc := 10) dX6_finding_10 (by decide) ?_
  refine xg_icmp_ge (pc := 12) (tgt := 25) dX6_finding_12 (by decide) (fun c_12 => absurd c_12 (nI_ge (b := 7) (by omega) (by omega))) (fun c_12 => ?_)
  refine xg_aload_n (pc := 15) dX6_finding_15 rfl ?_
  refine xg_get (pc := 16) dX6_finding_16 flX6_49 hp_0 rfl ?_
  refine xg_iload_n (pc := 19) dX6_finding_19 rfl ?_
  refine xg_dup2 (pc := 20) dX6_finding_20 rfl rfl ?_
  refine xg_iald (pc := 21) j dX6_finding_21 hp_61 rfl (by omega) (by decide) ?_
  refine xg_iconst (v := 1) (pc := 22) dX6_finding_22 (by decide) ?_
  refine xg_iadd (pc := 23) dX6_finding_23 ?_
  refine xg_iast (pc := 24) (h' := hp (tri f0 f1 f2) (o.1, upd o.2.1 j ((o.2.1 j) + 1), o.2.2.1, o.2.2.2.1, o.2.2.2.2.1, o.2.2.2.2.2.1, o.2.2.2.2.2.2.1, o.2.2.2.2.2.2.2.1, o.2.2.2.2.2.2.2.2.1, o.2.2.2.2.2.2.2.2.2.1, o.2.2.2.2.2.2.2.2.2.2) mf wf q) j dX6_finding_24 hp_61 rfl (by omega) (by decide) hs_fc ?_
  refine xg_iload_n (pc := 25) dX6_finding_25 rfl ?_
  exact xg_iret (pc := 26) dX6_finding_26 rfl (⟨by rfl, rfl⟩)
set_option maxRecDepth 100000 in
set_option maxHeartbeats 4000000 in
theorem ev_X6_wind {w v : Int32}  : xEv X false (d + 2) 0 0 mX6_wind [.ref 0, .int w, .int v] (hp (tri f0 f1 f2) o mf wf q) (CQ f2 o mf wf q (sp_wind f0 w v)) := by
  refine xEv.of (ls := [some (.ref 0), some (.int w), some (.int v), none]) mcX6_wind.1.2.2.2.2 (Nat.le_of_ble_eq_true rfl) rfl ?_
  refine xg_iload_n (pc := 0) dX6_wind_0 rfl ?_
  refine xg_if_ne (pc := 1) (tgt := 33) dX6_wind_1 (by decide) (fun c_1 => ?_) (fun c_1 => ?_)
  ·
    refine xg_iload_n (pc := 33) dX6_wind_33 rfl ?_
    refine xg_iconst (v := 1) (pc := 34) dX6_wind_34 (by decide) ?_
    refine xg_icmp_ne (pc := 35) (tgt := 65) dX6_wind_35 (by decide) (fun c_35 => ?_) (fun c_35 => ?_)
    ·
      refine xg_aload_n (pc := 65) dX6_wind_65 rfl ?_
      refine xg_ldc (v := -1000000001) (pc := 66) dX6_wind_66 ccX6_64 ?_
      refine xg_cvI (pc := 68) (h1 := hp (tri f0 f1 f2) (o.1, upd o.2.1 0 (o.2.1 0 + 1), o.2.2.1, o.2.2.2.1, o.2.2.2.2.1, o.2.2.2.2.2.1, o.2.2.2.2.2.2.1, o.2.2.2.2.2.2.2.1, o.2.2.2.2.2.2.2.2.1, o.2.2.2.2.2.2.2.2.2.1, o.2.2.2.2.2.2.2.2.2.2) mf wf q) (x := -1000000001) (M' := mX6_finding) dX6_wind_68 lkX6_65 mcX6_finding hp_0 rfl (ev_X6_finding (j := 0) (by decide) (by decide)) rfl rfl (Nat.le_of_ble_eq_true rfl) ?_
      exact xg_iret (pc := 71) dX6_wind_71 rfl (cqR (j := (some 0)) (by (try simp only [sp_wind] at *); (try simp only [← Int32.not_le, ← Int64.not_le, Classical.not_not] at *); first | (simp [*]; done) | (simp_all; done) | (exfalso; simp only [Int32.lt_iff_toInt_lt, Int32.le_iff_toInt_le, Int32.not_lt, Int32.not_le, ← Int32.toInt_inj, Int64.lt_iff_toInt_lt, Int64.le_iff_toInt_le, Int64.not_lt, Int64.not_le, Classical.not_not, Int32.reduceToInt, Int64.reduceToInt] at *; omega)))
    ·
      refine xg_iload_n (pc := 38) dX6_wind_38 rfl ?_
      refine xg_iconst (v := 0) (pc := 39) dX6_wind_39 (by decide) ?_
      refine xg_iconst (v := 1) (pc := 40) dX6_wind_40 (by decide) ?_
      refine xg_csI (pc := 41) (h1 := hp (tri f0 f1 f2) o mf wf q) (x := if 0 ≤ v ∧ v ≤ 1 then 1 else 0) (M' := mX6_isWithin) dX6_wind_41 lkX6_53 mcX6_isWithin (ev_X6_isWithin) rfl rfl (Nat.le_of_ble_eq_true rfl) ?_
      refine xg_bz (pc := 44) (tgt := 65) dX6_wind_44 (by decide) (fun c_44 => ?_) (fun c_44 => ?_)
      ·
        refine xg_aload_n (pc := 65) dX6_wind_65 rfl ?_
        refine xg_ldc (v := -1000000001) (pc := 66) dX6_wind_66 ccX6_64 ?_
        refine xg_cvI (pc := 68) (h1 := hp (tri f0 f1 f2) (o.1, upd o.2.1 0 (o.2.1 0 + 1), o.2.2.1, o.2.2.2.1, o.2.2.2.2.1, o.2.2.2.2.2.1, o.2.2.2.2.2.2.1, o.2.2.2.2.2.2.2.1, o.2.2.2.2.2.2.2.2.1, o.2.2.2.2.2.2.2.2.2.1, o.2.2.2.2.2.2.2.2.2.2) mf wf q) (x := -1000000001) (M' := mX6_finding) dX6_wind_68 lkX6_65 mcX6_finding hp_0 rfl (ev_X6_finding (j := 0) (by decide) (by decide)) rfl rfl (Nat.le_of_ble_eq_true rfl) ?_
        exact xg_iret (pc := 71) dX6_wind_71 rfl (cqR (j := (some 0)) (by (try simp only [sp_wind] at *); (try simp only [← Int32.not_le, ← Int64.not_le, Classical.not_not] at *); first | (simp [*]; done) | (simp_all; done) | (exfalso; simp only [Int32.lt_iff_toInt_lt, Int32.le_iff_toInt_le, Int32.not_lt, Int32.not_le, ← Int32.toInt_inj, Int64.lt_iff_toInt_lt, Int64.le_iff_toInt_le, Int64.not_lt, Int64.not_le, Classical.not_not, Int32.reduceToInt, Int64.reduceToInt] at *; omega)))
      ·
        refine xg_aload_n (pc := 47) dX6_wind_47 rfl ?_
        refine xg_get (pc := 48) dX6_wind_48 flX6_10 hp_0 rfl ?_
        refine xg_get (pc := 51) dX6_wind_51 flX6_61 (hp_lake0 ) rfl ?_
        refine xg_istore_n (pc := 54) (ls' := [some (.ref 0), some (.int w), some (.int v), some (.int (f0 2))]) dX6_wind_54 (by decide) rfl ?_
        refine xg_aload_n (pc := 55) dX6_wind_55 rfl ?_
        refine xg_get (pc := 56) dX6_wind_56 flX6_10 hp_0 rfl ?_
        refine xg_iload_n (pc := 59) dX6_wind_59 rfl ?_
        refine xg_puti (pc := 60) (h' := hp (tri (upd f0 2 v) f1 f2) o mf wf q) dX6_wind_60 flX6_61 (hp_lake0 ) (Nat.le_of_ble_eq_true rfl) (hs_lk0  (by decide)) ?_
        refine xg_iload_n (pc := 63) dX6_wind_63 rfl ?_
        exact xg_iret (pc := 64) dX6_wind_64 rfl (cqR (j := none) (by (try simp only [sp_wind] at *); (try simp only [← Int32.not_le, ← Int64.not_le, Classical.not_not] at *); first | (simp [*]; done) | (simp_all; done) | (exfalso; simp only [Int32.lt_iff_toInt_lt, Int32.le_iff_toInt_le, Int32.not_lt, Int32.not_le, ← Int32.toInt_inj, Int64.lt_iff_toInt_lt, Int64.le_iff_toInt_le, Int64.not_lt, Int64.not_le, Classical.not_not, Int32.reduceToInt, Int64.reduceToInt] at *; omega)))
  ·
    refine xg_iload_n (pc := 4) dX6_wind_4 rfl ?_
    refine xg_iconst (v := 0) (pc := 5) dX6_wind_5 (by decide) ?_
    refine xg_sipush (v := 255) (pc := 6) dX6_wind_6 (by decide) ?_
    refine xg_csI (pc := 9) (h1 := hp (tri f0 f1 f2) o mf wf q) (x := if 0 ≤ v ∧ v ≤ 255 then 1 else 0) (M' := mX6_isWithin) dX6_wind_9 lkX6_53 mcX6_isWithin (ev_X6_isWithin) rfl rfl (Nat.le_of_ble_eq_true rfl) ?_
    refine xg_bz (pc := 12) (tgt := 33) dX6_wind_12 (by decide) (fun c_12 => ?_) (fun c_12 => ?_)
    ·
      refine xg_iload_n (pc := 33) dX6_wind_33 rfl ?_
      refine xg_iconst (v := 1) (pc := 34) dX6_wind_34 (by decide) ?_
      refine xg_icmp_ne (pc := 35) (tgt := 65) dX6_wind_35 (by decide) (fun c_35 => ?_) (fun c_35 => ?_)
      ·
        refine xg_aload_n (pc := 65) dX6_wind_65 rfl ?_
        refine xg_ldc (v := -1000000001) (pc := 66) dX6_wind_66 ccX6_64 ?_
        refine xg_cvI (pc := 68) (h1 := hp (tri f0 f1 f2) (o.1, upd o.2.1 0 (o.2.1 0 + 1), o.2.2.1, o.2.2.2.1, o.2.2.2.2.1, o.2.2.2.2.2.1, o.2.2.2.2.2.2.1, o.2.2.2.2.2.2.2.1, o.2.2.2.2.2.2.2.2.1, o.2.2.2.2.2.2.2.2.2.1, o.2.2.2.2.2.2.2.2.2.2) mf wf q) (x := -1000000001) (M' := mX6_finding) dX6_wind_68 lkX6_65 mcX6_finding hp_0 rfl (ev_X6_finding (j := 0) (by decide) (by decide)) rfl rfl (Nat.le_of_ble_eq_true rfl) ?_
        exact xg_iret (pc := 71) dX6_wind_71 rfl (cqR (j := (some 0)) (by (try simp only [sp_wind] at *); (try simp only [← Int32.not_le, ← Int64.not_le, Classical.not_not] at *); first | (simp [*]; done) | (simp_all; done) | (exfalso; simp only [Int32.lt_iff_toInt_lt, Int32.le_iff_toInt_le, Int32.not_lt, Int32.not_le, ← Int32.toInt_inj, Int64.lt_iff_toInt_lt, Int64.le_iff_toInt_le, Int64.not_lt, Int64.not_le, Classical.not_not, Int32.reduceToInt, Int64.reduceToInt] at *; omega)))
      ·
        refine xg_iload_n (pc := 38) dX6_wind_38 rfl ?_
        refine xg_iconst (v := 0) (pc := 39) dX6_wind_39 (by decide) ?_
        refine xg_iconst (v := 1) (pc := 40) dX6_wind_40 (by decide) ?_
        refine xg_csI (pc := 41) (h1 := hp (tri f0 f1 f2) o mf wf q) (x := if 0 ≤ v ∧ v ≤ 1 then 1 else 0) (M' := mX6_isWithin) dX6_wind_41 lkX6_53 mcX6_isWithin (ev_X6_isWithin) rfl rfl (Nat.le_of_ble_eq_true rfl) ?_
        refine xg_bz (pc := 44) (tgt := 65) dX6_wind_44 (by decide) (fun c_44 => ?_) (fun c_44 => ?_)
        ·
          refine xg_aload_n (pc := 65) dX6_wind_65 rfl ?_
          refine xg_ldc (v := -1000000001) (pc := 66) dX6_wind_66 ccX6_64 ?_
          refine xg_cvI (pc := 68) (h1 := hp (tri f0 f1 f2) (o.1, upd o.2.1 0 (o.2.1 0 + 1), o.2.2.1, o.2.2.2.1, o.2.2.2.2.1, o.2.2.2.2.2.1, o.2.2.2.2.2.2.1, o.2.2.2.2.2.2.2.1, o.2.2.2.2.2.2.2.2.1, o.2.2.2.2.2.2.2.2.2.1, o.2.2.2.2.2.2.2.2.2.2) mf wf q) (x := -1000000001) (M' := mX6_finding) dX6_wind_68 lkX6_65 mcX6_finding hp_0 rfl (ev_X6_finding (j := 0) (by decide) (by decide)) rfl rfl (Nat.le_of_ble_eq_true rfl) ?_
          exact xg_iret (pc := 71) dX6_wind_71 rfl (cqR (j := (some 0)) (by (try simp only [sp_wind] at *); (try simp only [← Int32.not_le, ← Int64.not_le, Classical.not_not] at *); first | (simp [*]; done) | (simp_all; done) | (exfalso; simp only [Int32.lt_iff_toInt_lt, Int32.le_iff_toInt_le, Int32.not_lt, Int32.not_le, ← Int32.toInt_inj, Int64.lt_iff_toInt_lt, Int64.le_iff_toInt_le, Int64.not_lt, Int64.not_le, Classical.not_not, Int32.reduceToInt, Int64.reduceToInt] at *; omega)))
        ·
          refine xg_aload_n (pc := 47) dX6_wind_47 rfl ?_
          refine xg_get (pc := 48) dX6_wind_48 flX6_10 hp_0 rfl ?_
          refine xg_get (pc := 51) dX6_wind_51 flX6_61 (hp_lake0 ) rfl ?_
          refine xg_istore_n (pc := 54) (ls' := [some (.ref 0), some (.int w), some (.int v), some (.int (f0 2))]) dX6_wind_54 (by decide) rfl ?_
          refine xg_aload_n (pc := 55) dX6_wind_55 rfl ?_
          refine xg_get (pc := 56) dX6_wind_56 flX6_10 hp_0 rfl ?_
          refine xg_iload_n (pc := 59) dX6_wind_59 rfl ?_
          refine xg_puti (pc := 60) (h' := hp (tri (upd f0 2 v) f1 f2) o mf wf q) dX6_wind_60 flX6_61 (hp_lake0 ) (Nat.le_of_ble_eq_true rfl) (hs_lk0  (by decide)) ?_
          refine xg_iload_n (pc := 63) dX6_wind_63 rfl ?_
          exact xg_iret (pc := 64) dX6_wind_64 rfl (cqR (j := none) (by (try simp only [sp_wind] at *); (try simp only [← Int32.not_le, ← Int64.not_le, Classical.not_not] at *); first | (simp [*]; done) | (simp_all; done) | (exfalso; simp only [Int32.lt_iff_toInt_lt, Int32.le_iff_toInt_le, Int32.not_lt, Int32.not_le, ← Int32.toInt_inj, Int64.lt_iff_toInt_lt, Int64.le_iff_toInt_le, Int64.not_lt, Int64.not_le, Classical.not_not, Int32.reduceToInt, Int64.reduceToInt] at *; omega)))
    ·
      refine xg_aload_n (pc := 15) dX6_wind_15 rfl ?_
      refine xg_get (pc := 16) dX6_wind_16 flX6_10 hp_0 rfl ?_
      refine xg_get (pc := 19) dX6_wind_19 flX6_57 (hp_lake0 ) rfl ?_
      refine xg_istore_n (pc := 22) (ls' := [some (.ref 0), some (.int w), some (.int v), some (.int (f0 1))]) dX6_wind_22 (by decide) rfl ?_
      refine xg_aload_n (pc := 23) dX6_wind_23 rfl ?_
      refine xg_get (pc := 24) dX6_wind_24 flX6_10 hp_0 rfl ?_
      refine xg_iload_n (pc := 27) dX6_wind_27 rfl ?_
      refine xg_puti (pc := 28) (h' := hp (tri (upd f0 1 v) f1 f2) o mf wf q) dX6_wind_28 flX6_57 (hp_lake0 ) (Nat.le_of_ble_eq_true rfl) (hs_lk0  (by decide)) ?_
      refine xg_iload_n (pc := 31) dX6_wind_31 rfl ?_
      exact xg_iret (pc := 32) dX6_wind_32 rfl (cqR (j := none) (by (try simp only [sp_wind] at *); (try simp only [← Int32.not_le, ← Int64.not_le, Classical.not_not] at *); first | (simp [*]; done) | (simp_all; done) | (exfalso; simp only [Int32.lt_iff_toInt_lt, Int32.le_iff_toInt_le, Int32.not_lt, Int32.not_le, ← Int32.toInt_inj, Int64.lt_iff_toInt_lt, Int64.le_iff_toInt_le, Int64.not_lt, Int64.not_le, Classical.not_not, Int32.reduceToInt, Int64.reduceToInt] at *; omega)))
set_option maxRecDepth 100000 in
set_option maxHeartbeats 4000000 in
theorem ev_X6_cell {c w : Int32} (ok : okN f0) : xEv X false (d + 4) 0 0 mX6_cell [.ref 0, .int c, .int w] (hp (tri f0 f1 f2) o mf wf q) (CQ f2 o mf wf q (sp_cell f0 (glC f0 c) (orI (oC f0 c) (nT f0)) (orI (bA f0 c) (nB f0)) (sumI (tC f0 c) (nT f0)) c w)) := by
  refine xEv.of (ls := [some (.ref 0), some (.int c), some (.int w)]) mcX6_cell.1.2.2.2.2 (Nat.le_of_ble_eq_true rfl) rfl ?_
  refine xg_iload_n (pc := 0) dX6_cell_0 rfl ?_
  refine xg_csI (pc := 1) (h1 := hp (tri f0 f1 f2) o mf wf q) (x := if 0 ≤ c ∧ c ≤ 47 then 1 else 0) (M' := mX6_isCell) dX6_cell_1 lkX6_69 mcX6_isCell (ev_X6_isCell) rfl rfl (Nat.le_of_ble_eq_true rfl) ?_
  refine xg_bnz (pc := 4) (tgt := 14) dX6_cell_4 (by decide) (fun c_4 => ?_) (fun c_4 => ?_)
  ·
    refine xg_iload_n (pc := 14) dX6_cell_14 rfl ?_
    by_cases w15_0 : w = 0
    ·
      refine xg_tswI (pc := 15) 0 (tgt := 44) dX6_cell_15 (by rw [w15_0]; rfl) (by decide) rfl (by decide) ?_
      refine xg_aload_n (pc := 44) dX6_cell_44 rfl ?_
      refine xg_get (pc := 45) dX6_cell_45 flX6_10 hp_0 rfl ?_
      refine xg_iload_n (pc := 48) dX6_cell_48 rfl ?_
      refine xg_cvI (pc := 49) (h1 := hp (tri f0 f1 f2) o mf wf q) (x := glC f0 c) (M' := mX1_glintOf) dX6_cell_49 lkX6_73 mcX1_glintOf (hp_lake0 ) rfl (ev0_X1_glintOf ok c_4) rfl rfl (Nat.le_of_ble_eq_true rfl) ?_
      exact xg_iret (pc := 52) dX6_cell_52 rfl (cqR (j := none) (by (try simp only [sp_cell] at *); (try simp only [← Int32.not_le, ← Int64.not_le, Classical.not_not] at *); first | (simp [*]; done) | (simp_all; done) | (exfalso; simp only [Int32.lt_iff_toInt_lt, Int32.le_iff_toInt_le, Int32.not_lt, Int32.not_le, ← Int32.toInt_inj, Int64.lt_iff_toInt_lt, Int64.le_iff_toInt_le, Int64.not_lt, Int64.not_le, Classical.not_not, Int32.reduceToInt, Int64.reduceToInt] at *; omega)))
    by_cases w15_1 : w = 1
    ·
      refine xg_tswI (pc := 15) 1 (tgt := 53) dX6_cell_15 (by rw [w15_1]; rfl) (by decide) rfl (by decide) ?_
      refine xg_aload_n (pc := 53) dX6_cell_53 rfl ?_
      refine xg_get (pc := 54) dX6_cell_54 flX6_10 hp_0 rfl ?_
      refine xg_iload_n (pc := 57) dX6_cell_57 rfl ?_
      refine xg_cvI (pc := 58) (h1 := hp (tri f0 f1 f2) o mf wf q) (x := orI (oC f0 c) (nT f0)) (M' := mX1_thingsMirroredIn) dX6_cell_58 lkX6_76 mcX1_thingsMirroredIn (hp_lake0 ) rfl (ev0_X1_thingsMirroredIn ok) rfl rfl (Nat.le_of_ble_eq_true rfl) ?_
      exact xg_iret (pc := 61) dX6_cell_61 rfl (cqR (j := none) (by (try simp only [sp_cell] at *); (try simp only [← Int32.not_le, ← Int64.not_le, Classical.not_not] at *); first | (simp [*]; done) | (simp_all; done) | (exfalso; simp only [Int32.lt_iff_toInt_lt, Int32.le_iff_toInt_le, Int32.not_lt, Int32.not_le, ← Int32.toInt_inj, Int64.lt_iff_toInt_lt, Int64.le_iff_toInt_le, Int64.not_lt, Int64.not_le, Classical.not_not, Int32.reduceToInt, Int64.reduceToInt] at *; omega)))
    by_cases w15_2 : w = 2
    ·
      refine xg_tswI (pc := 15) 2 (tgt := 62) dX6_cell_15 (by rw [w15_2]; rfl) (by decide) rfl (by decide) ?_
      refine xg_aload_n (pc := 62) dX6_cell_62 rfl ?_
      refine xg_get (pc := 63) dX6_cell_63 flX6_10 hp_0 rfl ?_
      refine xg_iload_n (pc := 66) dX6_cell_66 rfl ?_
      refine xg_cvI (pc := 67) (h1 := hp (tri f0 f1 f2) o mf wf q) (x := orI (bA f0 c) (nB f0)) (M' := mX1_boatsAt) dX6_cell_67 lkX6_79 mcX1_boatsAt (hp_lake0 ) rfl (ev0_X1_boatsAt ok) rfl rfl (Nat.le_of_ble_eq_true rfl) ?_
      exact xg_iret (pc := 70) dX6_cell_70 rfl (cqR (j := none) (by (try simp only [sp_cell] at *); (try simp only [← Int32.not_le, ← Int64.not_le, Classical.not_not] at *); first | (simp [*]; done) | (simp_all; done) | (exfalso; simp only [Int32.lt_iff_toInt_lt, Int32.le_iff_toInt_le, Int32.not_lt, Int32.not_le, ← Int32.toInt_inj, Int64.lt_iff_toInt_lt, Int64.le_iff_toInt_le, Int64.not_lt, Int64.not_le, Classical.not_not, Int32.reduceToInt, Int64.reduceToInt] at *; omega)))
    by_cases w15_3 : w = 3
    ·
      refine xg_tswI (pc := 15) 3 (tgt := 71) dX6_cell_15 (by rw [w15_3]; rfl) (by decide) rfl (by decide) ?_
      refine xg_aload_n (pc := 71) dX6_cell_71 rfl ?_
      refine xg_get (pc := 72) dX6_cell_72 flX6_10 hp_0 rfl ?_
      refine xg_iload_n (pc := 75) dX6_cell_75 rfl ?_
      refine xg_cvI (pc := 76) (h1 := hp (tri f0 f1 f2) o mf wf q) (x := sumI (tC f0 c) (nT f0)) (M' := mX1_taxOf) dX6_cell_76 lkX6_82 mcX1_taxOf (hp_lake0 ) rfl (ev0_X1_taxOf ok) rfl rfl (Nat.le_of_ble_eq_true rfl) ?_
      exact xg_iret (pc := 79) dX6_cell_79 rfl (cqR (j := none) (by (try simp only [sp_cell] at *); (try simp only [← Int32.not_le, ← Int64.not_le, Classical.not_not] at *); first | (simp [*]; done) | (simp_all; done) | (exfalso; simp only [Int32.lt_iff_toInt_lt, Int32.le_iff_toInt_le, Int32.not_lt, Int32.not_le, ← Int32.toInt_inj, Int64.lt_iff_toInt_lt, Int64.le_iff_toInt_le, Int64.not_lt, Int64.not_le, Classical.not_not, Int32.reduceToInt, Int64.reduceToInt] at *; omega)))
    refine xg_tswO (pc := 15) (tgt := 80) dX6_cell_15 (by have := lv_neT (a := 0) w15_0 (by decide); have := lv_neT (a := 1) w15_1 (by decide); have := lv_neT (a := 2) w15_2 (by decide); have := lv_neT (a := 3) w15_3 (by decide); omega) (by decide) ?_
    refine xg_aload_n (pc := 80) dX6_cell_80 rfl ?_
    refine xg_ldc (v := -1000000001) (pc := 81) dX6_cell_81 ccX6_64 ?_
    refine xg_cvI (pc := 83) (h1 := hp (tri f0 f1 f2) (o.1, upd o.2.1 0 (o.2.1 0 + 1), o.2.2.1, o.2.2.2.1, o.2.2.2.2.1, o.2.2.2.2.2.1, o.2.2.2.2.2.2.1, o.2.2.2.2.2.2.2.1, o.2.2.2.2.2.2.2.2.1, o.2.2.2.2.2.2.2.2.2.1, o.2.2.2.2.2.2.2.2.2.2) mf wf q) (x := -1000000001) (M' := mX6_finding) dX6_cell_83 lkX6_65 mcX6_finding hp_0 rfl (ev_X6_finding (j := 0) (by decide) (by decide)) rfl rfl (Nat.le_of_ble_eq_true rfl) ?_
    exact xg_iret (pc := 86) dX6_cell_86 rfl (cqR (j := (some 0)) (by (try simp only [sp_cell] at *); (try simp only [← Int32.not_le, ← Int64.not_le, Classical.not_not] at *); first | (simp [*]; done) | (simp_all; done) | (exfalso; simp only [Int32.lt_iff_toInt_lt, Int32.le_iff_toInt_le, Int32.not_lt, Int32.not_le, ← Int32.toInt_inj, Int64.lt_iff_toInt_lt, Int64.le_iff_toInt_le, Int64.not_lt, Int64.not_le, Classical.not_not, Int32.reduceToInt, Int64.reduceToInt] at *; omega)))
  ·
    refine xg_aload_n (pc := 7) dX6_cell_7 rfl ?_
    refine xg_ldc (v := -1000000001) (pc := 8) dX6_cell_8 ccX6_64 ?_
    refine xg_cvI (pc := 10) (h1 := hp (tri f0 f1 f2) (o.1, upd o.2.1 0 (o.2.1 0 + 1), o.2.2.1, o.2.2.2.1, o.2.2.2.2.1, o.2.2.2.2.2.1, o.2.2.2.2.2.2.1, o.2.2.2.2.2.2.2.1, o.2.2.2.2.2.2.2.2.1, o.2.2.2.2.2.2.2.2.2.1, o.2.2.2.2.2.2.2.2.2.2) mf wf q) (x := -1000000001) (M' := mX6_finding) dX6_cell_10 lkX6_65 mcX6_finding hp_0 rfl (ev_X6_finding (j := 0) (by decide) (by decide)) rfl rfl (Nat.le_of_ble_eq_true rfl) ?_
    exact xg_iret (pc := 13) dX6_cell_13 rfl (cqR (j := (some 0)) (by (try simp only [sp_cell] at *); (try simp only [← Int32.not_le, ← Int64.not_le, Classical.not_not] at *); first | (simp [*]; done) | (simp_all; done) | (exfalso; simp only [Int32.lt_iff_toInt_lt, Int32.le_iff_toInt_le, Int32.not_lt, Int32.not_le, ← Int32.toInt_inj, Int64.lt_iff_toInt_lt, Int64.le_iff_toInt_le, Int64.not_lt, Int64.not_le, Classical.not_not, Int32.reduceToInt, Int64.reduceToInt] at *; omega)))
set_option maxRecDepth 100000 in
set_option maxHeartbeats 4000000 in
theorem ev_X6_thing {k c h : Int32} (ok : okN f0) : xEv X false (d + 2) 0 0 mX6_thing [.ref 0, .int k, .int c, .int h] (hp (tri f0 f1 f2) o mf wf q) (CQ f2 o mf wf q (sp_thing f0 k c h)) := by
  have h8 := ok.2.1
  refine xEv.of (ls := [some (.ref 0), some (.int k), some (.int c), some (.int h)]) mcX6_thing.1.2.2.2.2 (Nat.le_of_ble_eq_true rfl) rfl ?_
  refine xg_iload_n (pc := 0) dX6_thing_0 rfl ?_
  refine xg_csI (pc := 1) (h1 := hp (tri f0 f1 f2) o mf wf q) (x := if 0 ≤ k ∧ k ≤ 5 then 1 else 0) (M' := mX6_isKind) dX6_thing_1 lkX6_85 mcX6_isKind (ev_X6_isKind) rfl rfl (Nat.le_of_ble_eq_true rfl) ?_
  refine xg_bz (pc := 4) (tgt := 24) dX6_thing_4 (by decide) (fun c_4 => ?_) (fun c_4 => ?_)
  ·
    refine xg_aload_n (pc := 24) dX6_thing_24 rfl ?_
    refine xg_ldc (v := -1000000001) (pc := 25) dX6_thing_25 ccX6_64 ?_
    refine xg_cvI (pc := 27) (h1 := hp (tri f0 f1 f2) (o.1, upd o.2.1 0 (o.2.1 0 + 1), o.2.2.1, o.2.2.2.1, o.2.2.2.2.1, o.2.2.2.2.2.1, o.2.2.2.2.2.2.1, o.2.2.2.2.2.2.2.1, o.2.2.2.2.2.2.2.2.1, o.2.2.2.2.2.2.2.2.2.1, o.2.2.2.2.2.2.2.2.2.2) mf wf q) (x := -1000000001) (M' := mX6_finding) dX6_thing_27 lkX6_65 mcX6_finding hp_0 rfl (ev_X6_finding (j := 0) (by decide) (by decide)) rfl rfl (Nat.le_of_ble_eq_true rfl) ?_
    exact xg_iret (pc := 30) dX6_thing_30 rfl (cqR (j := (some 0)) (by unfold sp_thing; refine (if_neg (by first | assumption | (simp only [Int32.lt_iff_toInt_lt, Int32.le_iff_toInt_le, Int32.not_lt, Int32.not_le, ← Int32.toInt_inj, Int64.lt_iff_toInt_lt, Int64.le_iff_toInt_le, Int64.not_lt, Int64.not_le, Classical.not_not, Int32.reduceToInt, Int64.reduceToInt] at *; omega) | (simp_all; done))).trans ?_; first | (with_reducible rfl) | (simp only [*, ix_0, ix_1, ix_2, ix_3, ix_4]; done) | (simp [*, ix_0, ix_1, ix_2, ix_3, ix_4]; done) | rfl | (simp_all [ix_0, ix_1, ix_2, ix_3, ix_4]; done)))
  ·
    refine xg_iload_n (pc := 7) dX6_thing_7 rfl ?_
    refine xg_csI (pc := 8) (h1 := hp (tri f0 f1 f2) o mf wf q) (x := if 0 ≤ c ∧ c ≤ 7 then 1 else 0) (M' := mX6_isColumn) dX6_thing_8 lkX6_88 mcX6_isColumn (ev_X6_isColumn) rfl rfl (Nat.le_of_ble_eq_true rfl) ?_
    refine xg_bz (pc := 11) (tgt := 24) dX6_thing_11 (by decide) (fun c_11 => ?_) (fun c_11 => ?_)
    ·
      refine xg_aload_n (pc := 24) dX6_thing_24 rfl ?_
      refine xg_ldc (v := -1000000001) (pc := 25) dX6_thing_25 ccX6_64 ?_
      refine xg_cvI (pc := 27) (h1 := hp (tri f0 f1 f2) (o.1, upd o.2.1 0 (o.2.1 0 + 1), o.2.2.1, o.2.2.2.1, o.2.2.2.2.1, o.2.2.2.2.2.1, o.2.2.2.2.2.2.1, o.2.2.2.2.2.2.2.1, o.2.2.2.2.2.2.2.2.1, o.2.2.2.2.2.2.2.2.2.1, o.2.2.2.2.2.2.2.2.2.2) mf wf q) (x := -1000000001) (M' := mX6_finding) dX6_thing_27 lkX6_65 mcX6_finding hp_0 rfl (ev_X6_finding (j := 0) (by decide) (by decide)) rfl rfl (Nat.le_of_ble_eq_true rfl) ?_
      exact xg_iret (pc := 30) dX6_thing_30 rfl (cqR (j := (some 0)) (by unfold sp_thing; refine (if_neg (by first | assumption | (simp only [Int32.lt_iff_toInt_lt, Int32.le_iff_toInt_le, Int32.not_lt, Int32.not_le, ← Int32.toInt_inj, Int64.lt_iff_toInt_lt, Int64.le_iff_toInt_le, Int64.not_lt, Int64.not_le, Classical.not_not, Int32.reduceToInt, Int64.reduceToInt] at *; omega) | (simp_all; done))).trans ?_; first | (with_reducible rfl) | (simp only [*, ix_0, ix_1, ix_2, ix_3, ix_4]; done) | (simp [*, ix_0, ix_1, ix_2, ix_3, ix_4]; done) | rfl | (simp_all [ix_0, ix_1, ix_2, ix_3, ix_4]; done)))
    ·
      refine xg_iload_n (pc := 14) dX6_thing_14 rfl ?_
      refine xg_iconst (v := 1) (pc := 15) dX6_thing_15 (by decide) ?_
      refine xg_bipush (v := 6) (pc := 16) dX6_thing_16 (by decide) ?_
      refine xg_csI (pc := 18) (h1 := hp (tri f0 f1 f2) o mf wf q) (x := if 1 ≤ h ∧ h ≤ 6 then 1 else 0) (M' := mX6_isWithin) dX6_thing_18 lkX6_53 mcX6_isWithin (ev_X6_isWithin) rfl rfl (Nat.le_of_ble_eq_true rfl) ?_
      refine xg_bnz (pc := 21) (tgt := 31) dX6_thing_21 (by decide) (fun c_21 => ?_) (fun c_21 => ?_)
      ·
        refine xg_aload_n (pc := 31) dX6_thing_31 rfl ?_
        refine xg_get (pc := 32) dX6_thing_32 flX6_10 hp_0 rfl ?_
        refine xg_get (pc := 35) dX6_thing_35 flX6_91 (hp_lake0 ) rfl ?_
        refine xg_bipush (v := 8) (pc := 38) dX6_thing_38 (by decide) ?_
        refine xg_icmp_lt (pc := 40) (tgt := 50) dX6_thing_40 (by decide) (fun c_40 => ?_) (fun c_40 => ?_)
        ·
          have hr8 : nT f0 < 8 := lt_of8 ok c_40
          refine xg_aload_n (pc := 50) dX6_thing_50 rfl ?_
          refine xg_get (pc := 51) dX6_thing_51 flX6_10 hp_0 rfl ?_
          refine xg_iload_n (pc := 54) dX6_thing_54 rfl ?_
          refine xg_iload_n (pc := 55) dX6_thing_55 rfl ?_
          refine xg_iload_n (pc := 56) dX6_thing_56 rfl ?_
          refine xg_bipush (v := 40) (pc := 57) dX6_thing_57 (by decide) ?_
          refine xg_iconst (v := 1) (pc := 59) dX6_thing_59 (by decide) ?_
          refine xg_cvV (pc := 60) (h1 := hp (tri (aT f0 k c h 40 1) f1 f2) o mf wf q) (M' := mX1_addThing) dX6_thing_60 lkX6_95 mcX1_addThing (hp_lake0 ) rfl (ev0_X1_addThing ok (by omega)) rfl rfl (Nat.le_of_ble_eq_true rfl) ?_
          refine xg_aload_n (pc := 63) dX6_thing_63 rfl ?_
          refine xg_get (pc := 64) dX6_thing_64 flX6_10 hp_0 rfl ?_
          refine xg_get (pc := 67) dX6_thing_67 flX6_91 (hp_lake0 ) rfl ?_
          refine xg_eq aT_3 ?_
          refine xg_iconst (v := 1) (pc := 70) dX6_thing_70 (by decide) ?_
          refine xg_isub (pc := 71) dX6_thing_71 ?_
          refine xg_eq add1_sub1 ?_
          exact xg_iret (pc := 72) dX6_thing_72 rfl (cqR (j := none) (by unfold sp_thing; refine (if_pos (by first | assumption | (simp only [Int32.lt_iff_toInt_lt, Int32.le_iff_toInt_le, Int32.not_lt, Int32.not_le, ← Int32.toInt_inj, Int64.lt_iff_toInt_lt, Int64.le_iff_toInt_le, Int64.not_lt, Int64.not_le, Classical.not_not, Int32.reduceToInt, Int64.reduceToInt] at *; omega) | (simp_all; done))).trans ?_; refine (if_neg (by first | assumption | (simp only [Int32.lt_iff_toInt_lt, Int32.le_iff_toInt_le, Int32.not_lt, Int32.not_le, ← Int32.toInt_inj, Int64.lt_iff_toInt_lt, Int64.le_iff_toInt_le, Int64.not_lt, Int64.not_le, Classical.not_not, Int32.reduceToInt, Int64.reduceToInt] at *; omega) | (simp_all; done))).trans ?_; first | (with_reducible rfl) | (simp only [*, ix_0, ix_1, ix_2, ix_3, ix_4]; done) | (simp [*, ix_0, ix_1, ix_2, ix_3, ix_4]; done) | rfl | (simp_all [ix_0, ix_1, ix_2, ix_3, ix_4]; done)))
        ·
          refine xg_aload_n (pc := 43) dX6_thing_43 rfl ?_
          refine xg_ldc (v := -1000000002) (pc := 44) dX6_thing_44 ccX6_94 ?_
          refine xg_cvI (pc := 46) (h1 := hp (tri f0 f1 f2) (o.1, upd o.2.1 1 (o.2.1 1 + 1), o.2.2.1, o.2.2.2.1, o.2.2.2.2.1, o.2.2.2.2.2.1, o.2.2.2.2.2.2.1, o.2.2.2.2.2.2.2.1, o.2.2.2.2.2.2.2.2.1, o.2.2.2.2.2.2.2.2.2.1, o.2.2.2.2.2.2.2.2.2.2) mf wf q) (x := -1000000002) (M' := mX6_finding) dX6_thing_46 lkX6_65 mcX6_finding hp_0 rfl (ev_X6_finding (j := 1) (by decide) (by decide)) rfl rfl (Nat.le_of_ble_eq_true rfl) ?_
          exact xg_iret (pc := 49) dX6_thing_49 rfl (cqR (j := (some 1)) (by unfold sp_thing; refine (if_pos (by first | assumption | (simp only [Int32.lt_iff_toInt_lt, Int32.le_iff_toInt_le, Int32.not_lt, Int32.not_le, ← Int32.toInt_inj, Int64.lt_iff_toInt_lt, Int64.le_iff_toInt_le, Int64.not_lt, Int64.not_le, Classical.not_not, Int32.reduceToInt, Int64.reduceToInt] at *; omega) | (simp_all; done))).trans ?_; refine (if_pos (by first | assumption | (simp only [Int32.lt_iff_toInt_lt, Int32.le_iff_toInt_le, Int32.not_lt, Int32.not_le, ← Int32.toInt_inj, Int64.lt_iff_toInt_lt, Int64.le_iff_toInt_le, Int64.not_lt, Int64.not_le, Classical.not_not, Int32.reduceToInt, Int64.reduceToInt] at *; omega) | (simp_all; done))).trans ?_; first | (with_reducible rfl) | (simp only [*, ix_0, ix_1, ix_2, ix_3, ix_4]; done) | (simp [*, ix_0, ix_1, ix_2, ix_3, ix_4]; done) | rfl | (simp_all [ix_0, ix_1, ix_2, ix_3, ix_4]; done)))
      ·
        refine xg_aload_n (pc := 24) dX6_thing_24 rfl ?_
        refine xg_ldc (v := -1000000001) (pc := 25) dX6_thing_25 ccX6_64 ?_
        refine xg_cvI (pc := 27) (h1 := hp (tri f0 f1 f2) (o.1, upd o.2.1 0 (o.2.1 0 + 1), o.2.2.1, o.2.2.2.1, o.2.2.2.2.1, o.2.2.2.2.2.1, o.2.2.2.2.2.2.1, o.2.2.2.2.2.2.2.1, o.2.2.2.2.2.2.2.2.1, o.2.2.2.2.2.2.2.2.2.1, o.2.2.2.2.2.2.2.2.2.2) mf wf q) (x := -1000000001) (M' := mX6_finding) dX6_thing_27 lkX6_65 mcX6_finding hp_0 rfl (ev_X6_finding (j := 0) (by decide) (by decide)) rfl rfl (Nat.le_of_ble_eq_true rfl) ?_
        exact xg_iret (pc := 30) dX6_thing_30 rfl (cqR (j := (some 0)) (by unfold sp_thing; refine (if_neg (by first | assumption | (simp only [Int32.lt_iff_toInt_lt, Int32.le_iff_toInt_le, Int32.not_lt, Int32.not_le, ← Int32.toInt_inj, Int64.lt_iff_toInt_lt, Int64.le_iff_toInt_le, Int64.not_lt, Int64.not_le, Classical.not_not, Int32.reduceToInt, Int64.reduceToInt] at *; omega) | (simp_all; done))).trans ?_; first | (with_reducible rfl) | (simp only [*, ix_0, ix_1, ix_2, ix_3, ix_4]; done) | (simp [*, ix_0, ix_1, ix_2, ix_3, ix_4]; done) | rfl | (simp_all [ix_0, ix_1, ix_2, ix_3, ix_4]; done)))
set_option maxRecDepth 100000 in
set_option maxHeartbeats 4000000 in
theorem ev_X6_of {t w : Int32} (ok : okN f0) (hre : ∀ t, t < nT f0 → rng6 (rC f0 t)) : xEv X false (d + 3) 0 0 mX6_of [.ref 0, .int t, .int w] (hp (tri f0 f1 f2) o mf wf q) (CQ f2 o mf wf q (sp_of f0 (rC f0 (ix t)) (sumI (shW f0 (ix t)) (ix (rC f0 (ix t)))) t w)) := by
  have h8 := ok.2.1
  refine xEv.of (ls := [some (.ref 0), some (.int t), some (.int w), none]) mcX6_of.1.2.2.2.2 (Nat.le_of_ble_eq_true rfl) rfl ?_
  refine xg_aload_n (pc := 0) dX6_of_0 rfl ?_
  refine xg_iload_n (pc := 1) dX6_of_1 rfl ?_
  refine xg_cvI (pc := 2) (h1 := hp (tri f0 f1 f2) o mf wf q) (x := if 0 ≤ t ∧ t < f0 3 then 1 else 0) (M' := mX6_isThing) dX6_of_2 lkX6_99 mcX6_isThing hp_0 rfl (ev_X6_isThing) rfl rfl (Nat.le_of_ble_eq_true rfl) ?_
  refine xg_bnz (pc := 5) (tgt := 15) dX6_of_5 (by decide) (fun c_5 => ?_) (fun c_5 => ?_)
  ·
    obtain ⟨tn, htn, rfl⟩ := idxT ok c_5
    have etn : ix (nI tn) = tn := nI_clamp (by omega)
    refine xg_aload_n (pc := 15) dX6_of_15 rfl ?_
    refine xg_get (pc := 16) dX6_of_16 flX6_10 hp_0 rfl ?_
    refine xg_get (pc := 19) dX6_of_19 flX6_102 (hp_lake0 ) rfl ?_
    refine xg_iload_n (pc := 22) dX6_of_22 rfl ?_
    refine xg_aald (pc := 23) (r := 3 + 16 * 0 + tn) tn dX6_of_23 (hp_tarr0 ) (by decide) rfl (by omega) (by decide) (if_pos (by omega)) ?_
    refine xg_astore_n (pc := 24) (ls' := [some (.ref 0), some (.int (nI tn)), some (.int w), some (.ref (3 + 16 * 0 + tn))]) dX6_of_24 (by decide) rfl ?_
    refine xg_iload_n (pc := 25) dX6_of_25 rfl ?_
    by_cases w26_0 : w = 0
    ·
      refine xg_tswI (pc := 26) 0 (tgt := 72) dX6_of_26 (by rw [w26_0]; rfl) (by decide) rfl (by decide) ?_
      refine xg_aload_n (pc := 72) dX6_of_72 rfl ?_
      refine xg_get (pc := 73) dX6_of_73 flX6_106 (hp_thing0  (by omega)) rfl ?_
      exact xg_iret (pc := 76) dX6_of_76 rfl (cqR (j := none) (by unfold sp_of; refine (if_pos (by first | assumption | (simp only [Int32.lt_iff_toInt_lt, Int32.le_iff_toInt_le, Int32.not_lt, Int32.not_le, ← Int32.toInt_inj, Int64.lt_iff_toInt_lt, Int64.le_iff_toInt_le, Int64.not_lt, Int64.not_le, Classical.not_not, Int32.reduceToInt, Int64.reduceToInt] at *; omega) | (simp_all; done))).trans ?_; refine (if_pos (by first | assumption | (simp only [Int32.lt_iff_toInt_lt, Int32.le_iff_toInt_le, Int32.not_lt, Int32.not_le, ← Int32.toInt_inj, Int64.lt_iff_toInt_lt, Int64.le_iff_toInt_le, Int64.not_lt, Int64.not_le, Classical.not_not, Int32.reduceToInt, Int64.reduceToInt] at *; omega) | (simp_all; done))).trans ?_; first | (with_reducible rfl) | (simp only [*, ix_0, ix_1, ix_2, ix_3, ix_4, rC]; done) | (simp [*, ix_0, ix_1, ix_2, ix_3, ix_4, rC]; done) | rfl | (simp_all [ix_0, ix_1, ix_2, ix_3, ix_4]; done)))
    by_cases w26_1 : w = 1
    ·
      refine xg_tswI (pc := 26) 1 (tgt := 77) dX6_of_26 (by rw [w26_1]; rfl) (by decide) rfl (by decide) ?_
      refine xg_aload_n (pc := 77) dX6_of_77 rfl ?_
      refine xg_get (pc := 78) dX6_of_78 flX6_111 (hp_thing0  (by omega)) rfl ?_
      exact xg_iret (pc := 81) dX6_of_81 rfl (cqR (j := none) (by unfold sp_of; refine (if_pos (by first | assumption | (simp only [Int32.lt_iff_toInt_lt, Int32.le_iff_toInt_le, Int32.not_lt, Int32.not_le, ← Int32.toInt_inj, Int64.lt_iff_toInt_lt, Int64.le_iff_toInt_le, Int64.not_lt, Int64.not_le, Classical.not_not, Int32.reduceToInt, Int64.reduceToInt] at *; omega) | (simp_all; done))).trans ?_; refine (if_pos (by first | assumption | (simp only [Int32.lt_iff_toInt_lt, Int32.le_iff_toInt_le, Int32.not_lt, Int32.not_le, ← Int32.toInt_inj, Int64.lt_iff_toInt_lt, Int64.le_iff_toInt_le, Int64.not_lt, Int64.not_le, Classical.not_not, Int32.reduceToInt, Int64.reduceToInt] at *; omega) | (simp_all; done))).trans ?_; first | (with_reducible rfl) | (simp only [*, ix_0, ix_1, ix_2, ix_3, ix_4, rC]; done) | (simp [*, ix_0, ix_1, ix_2, ix_3, ix_4, rC]; done) | rfl | (simp_all [ix_0, ix_1, ix_2, ix_3, ix_4]; done)))
    by_cases w26_2 : w = 2
    ·
      refine xg_tswI (pc := 26) 2 (tgt := 82) dX6_of_26 (by rw [w26_2]; rfl) (by decide) rfl (by decide) ?_
      refine xg_aload_n (pc := 82) dX6_of_82 rfl ?_
      refine xg_get (pc := 83) dX6_of_83 flX6_114 (hp_thing0  (by omega)) rfl ?_
      exact xg_iret (pc := 86) dX6_of_86 rfl (cqR (j := none) (by unfold sp_of; refine (if_pos (by first | assumption | (simp only [Int32.lt_iff_toInt_lt, Int32.le_iff_toInt_le, Int32.not_lt, Int32.not_le, ← Int32.toInt_inj, Int64.lt_iff_toInt_lt, Int64.le_iff_toInt_le, Int64.not_lt, Int64.not_le, Classical.not_not, Int32.reduceToInt, Int64.reduceToInt] at *; omega) | (simp_all; done))).trans ?_; refine (if_pos (by first | assumption | (simp only [Int32.lt_iff_toInt_lt, Int32.le_iff_toInt_le, Int32.not_lt, Int32.not_le, ← Int32.toInt_inj, Int64.lt_iff_toInt_lt, Int64.le_iff_toInt_le, Int64.not_lt, Int64.not_le, Classical.not_not, Int32.reduceToInt, Int64.reduceToInt] at *; omega) | (simp_all; done))).trans ?_; first | (with_reducible rfl) | (simp only [*, ix_0, ix_1, ix_2, ix_3, ix_4, rC]; done) | (simp [*, ix_0, ix_1, ix_2, ix_3, ix_4, rC]; done) | rfl | (simp_all [ix_0, ix_1, ix_2, ix_3, ix_4]; done)))
    by_cases w26_3 : w = 3
    ·
      refine xg_tswI (pc := 26) 3 (tgt := 87) dX6_of_26 (by rw [w26_3]; rfl) (by decide) rfl (by decide) ?_
      refine xg_aload_n (pc := 87) dX6_of_87 rfl ?_
      refine xg_get (pc := 88) dX6_of_88 flX6_117 (hp_thing0  (by omega)) rfl ?_
      exact xg_iret (pc := 91) dX6_of_91 rfl (cqR (j := none) (by unfold sp_of; refine (if_pos (by first | assumption | (simp only [Int32.lt_iff_toInt_lt, Int32.le_iff_toInt_le, Int32.not_lt, Int32.not_le, ← Int32.toInt_inj, Int64.lt_iff_toInt_lt, Int64.le_iff_toInt_le, Int64.not_lt, Int64.not_le, Classical.not_not, Int32.reduceToInt, Int64.reduceToInt] at *; omega) | (simp_all; done))).trans ?_; refine (if_pos (by first | assumption | (simp only [Int32.lt_iff_toInt_lt, Int32.le_iff_toInt_le, Int32.not_lt, Int32.not_le, ← Int32.toInt_inj, Int64.lt_iff_toInt_lt, Int64.le_iff_toInt_le, Int64.not_lt, Int64.not_le, Classical.not_not, Int32.reduceToInt, Int64.reduceToInt] at *; omega) | (simp_all; done))).trans ?_; first | (with_reducible rfl) | (simp only [*, ix_0, ix_1, ix_2, ix_3, ix_4, rC]; done) | (simp [*, ix_0, ix_1, ix_2, ix_3, ix_4, rC]; done) | rfl | (simp_all [ix_0, ix_1, ix_2, ix_3, ix_4]; done)))
    by_cases w26_4 : w = 4
    ·
      refine xg_tswI (pc := 26) 4 (tgt := 92) dX6_of_26 (by rw [w26_4]; rfl) (by decide) rfl (by decide) ?_
      refine xg_aload_n (pc := 92) dX6_of_92 rfl ?_
      refine xg_get (pc := 93) dX6_of_93 flX6_120 (hp_thing0  (by omega)) rfl ?_
      exact xg_iret (pc := 96) dX6_of_96 rfl (cqR (j := none) (by unfold sp_of; refine (if_pos (by first | assumption | (simp only [Int32.lt_iff_toInt_lt, Int32.le_iff_toInt_le, Int32.not_lt, Int32.not_le, ← Int32.toInt_inj, Int64.lt_iff_toInt_lt, Int64.le_iff_toInt_le, Int64.not_lt, Int64.not_le, Classical.not_not, Int32.reduceToInt, Int64.reduceToInt] at *; omega) | (simp_all; done))).trans ?_; refine (if_pos (by first | assumption | (simp only [Int32.lt_iff_toInt_lt, Int32.le_iff_toInt_le, Int32.not_lt, Int32.not_le, ← Int32.toInt_inj, Int64.lt_iff_toInt_lt, Int64.le_iff_toInt_le, Int64.not_lt, Int64.not_le, Classical.not_not, Int32.reduceToInt, Int64.reduceToInt] at *; omega) | (simp_all; done))).trans ?_; first | (with_reducible rfl) | (simp only [*, ix_0, ix_1, ix_2, ix_3, ix_4, rC]; done) | (simp [*, ix_0, ix_1, ix_2, ix_3, ix_4, rC]; done) | rfl | (simp_all [ix_0, ix_1, ix_2, ix_3, ix_4]; done)))
    by_cases w26_5 : w = 5
    ·
      refine xg_tswI (pc := 26) 5 (tgt := 97) dX6_of_26 (by rw [w26_5]; rfl) (by decide) rfl (by decide) ?_
      refine xg_aload_n (pc := 97) dX6_of_97 rfl ?_
      refine xg_aload_n (pc := 98) dX6_of_98 rfl ?_
      refine xg_get (pc := 99) dX6_of_99 flX6_10 hp_0 rfl ?_
      refine xg_get (pc := 102) dX6_of_102 flX6_123 (hp_lake0 ) rfl ?_
      refine xg_cvI (pc := 105) (h1 := hp (tri f0 f1 f2) o mf wf q) (x := rch (tw6 (f0 (5 + 5 * tn + 2))) (f0 0) (f0 (5 + 5 * tn)) (f0 (5 + 5 * tn + 2))) (M' := mX5_reach) dX6_of_105 lkX6_126 mcX5_reach (hp_thing0  (by omega)) rfl (ev0_X5_reach (i := tn) (by omega)) rfl rfl (Nat.le_of_ble_eq_true rfl) ?_
      exact xg_iret (pc := 108) dX6_of_108 rfl (cqR (j := none) (by unfold sp_of; refine (if_pos (by first | assumption | (simp only [Int32.lt_iff_toInt_lt, Int32.le_iff_toInt_le, Int32.not_lt, Int32.not_le, ← Int32.toInt_inj, Int64.lt_iff_toInt_lt, Int64.le_iff_toInt_le, Int64.not_lt, Int64.not_le, Classical.not_not, Int32.reduceToInt, Int64.reduceToInt] at *; omega) | (simp_all; done))).trans ?_; refine (if_neg (by first | assumption | (simp only [Int32.lt_iff_toInt_lt, Int32.le_iff_toInt_le, Int32.not_lt, Int32.not_le, ← Int32.toInt_inj, Int64.lt_iff_toInt_lt, Int64.le_iff_toInt_le, Int64.not_lt, Int64.not_le, Classical.not_not, Int32.reduceToInt, Int64.reduceToInt] at *; omega) | (simp_all; done))).trans ?_; refine (if_pos (by first | assumption | (simp only [Int32.lt_iff_toInt_lt, Int32.le_iff_toInt_le, Int32.not_lt, Int32.not_le, ← Int32.toInt_inj, Int64.lt_iff_toInt_lt, Int64.le_iff_toInt_le, Int64.not_lt, Int64.not_le, Classical.not_not, Int32.reduceToInt, Int64.reduceToInt] at *; omega) | (simp_all; done))).trans ?_; first | (with_reducible rfl) | (simp only [*, ix_0, ix_1, ix_2, ix_3, ix_4, rC]; done) | (simp [*, ix_0, ix_1, ix_2, ix_3, ix_4, rC]; done) | rfl | (simp_all [ix_0, ix_1, ix_2, ix_3, ix_4]; done)))
    by_cases w26_6 : w = 6
    ·
      refine xg_tswI (pc := 26) 6 (tgt := 109) dX6_of_26 (by rw [w26_6]; rfl) (by decide) rfl (by decide) ?_
      refine xg_aload_n (pc := 109) dX6_of_109 rfl ?_
      refine xg_cvI (pc := 110) (h1 := hp (tri f0 f1 f2) o mf wf q) (x := txd (f0 (5 + 5 * tn)) (f0 (5 + 5 * tn + 4))) (M' := mX5_taxed) dX6_of_110 lkX6_129 mcX5_taxed (hp_thing0  (by omega)) rfl (ev0_X5_taxed (i := tn) (by omega)) rfl rfl (Nat.le_of_ble_eq_true rfl) ?_
      exact xg_iret (pc := 113) dX6_of_113 rfl (cqR (j := none) (by unfold sp_of; refine (if_pos (by first | assumption | (simp only [Int32.lt_iff_toInt_lt, Int32.le_iff_toInt_le, Int32.not_lt, Int32.not_le, ← Int32.toInt_inj, Int64.lt_iff_toInt_lt, Int64.le_iff_toInt_le, Int64.not_lt, Int64.not_le, Classical.not_not, Int32.reduceToInt, Int64.reduceToInt] at *; omega) | (simp_all; done))).trans ?_; refine (if_neg (by first | assumption | (simp only [Int32.lt_iff_toInt_lt, Int32.le_iff_toInt_le, Int32.not_lt, Int32.not_le, ← Int32.toInt_inj, Int64.lt_iff_toInt_lt, Int64.le_iff_toInt_le, Int64.not_lt, Int64.not_le, Classical.not_not, Int32.reduceToInt, Int64.reduceToInt] at *; omega) | (simp_all; done))).trans ?_; refine (if_neg (by first | assumption | (simp only [Int32.lt_iff_toInt_lt, Int32.le_iff_toInt_le, Int32.not_lt, Int32.not_le, ← Int32.toInt_inj, Int64.lt_iff_toInt_lt, Int64.le_iff_toInt_le, Int64.not_lt, Int64.not_le, Classical.not_not, Int32.reduceToInt, Int64.reduceToInt] at *; omega) | (simp_all; done))).trans ?_; refine (if_pos (by first | assumption | (simp only [Int32.lt_iff_toInt_lt, Int32.le_iff_toInt_le, Int32.not_lt, Int32.not_le, ← Int32.toInt_inj, Int64.lt_iff_toInt_lt, Int64.le_iff_toInt_le, Int64.not_lt, Int64.not_le, Classical.not_not, Int32.reduceToInt, Int64.reduceToInt] at *; omega) | (simp_all; done))).trans ?_; first | (with_reducible rfl) | (simp only [*, ix_0, ix_1, ix_2, ix_3, ix_4, rC]; done) | (simp [*, ix_0, ix_1, ix_2, ix_3, ix_4, rC]; done) | rfl | (simp_all [ix_0, ix_1, ix_2, ix_3, ix_4]; done)))
    by_cases w26_7 : w = 7
    ·
      refine xg_tswI (pc := 26) 7 (tgt := 114) dX6_of_26 (by rw [w26_7]; rfl) (by decide) rfl (by decide) ?_
      refine xg_aload_n (pc := 114) dX6_of_114 rfl ?_
      refine xg_aload_n (pc := 115) dX6_of_115 rfl ?_
      refine xg_get (pc := 116) dX6_of_116 flX6_10 hp_0 rfl ?_
      refine xg_get (pc := 119) dX6_of_119 flX6_123 (hp_lake0 ) rfl ?_
      refine xg_cvI (pc := 122) (h1 := hp (tri f0 f1 f2) o mf wf q) (x := sumI (shW f0 tn) (ix (rC f0 tn))) (M' := mX5_shineOfAllRows) dX6_of_122 lkX6_133 mcX5_shineOfAllRows (hp_thing0  (by omega)) rfl (ev0_X5_shineOfAllRows (i := tn) (by omega) (hre tn (by omega))) rfl rfl (Nat.le_of_ble_eq_true rfl) ?_
      exact xg_iret (pc := 125) dX6_of_125 rfl (cqR (j := none) (by unfold sp_of; refine (if_pos (by first | assumption | (simp only [Int32.lt_iff_toInt_lt, Int32.le_iff_toInt_le, Int32.not_lt, Int32.not_le, ← Int32.toInt_inj, Int64.lt_iff_toInt_lt, Int64.le_iff_toInt_le, Int64.not_lt, Int64.not_le, Classical.not_not, Int32.reduceToInt, Int64.reduceToInt] at *; omega) | (simp_all; done))).trans ?_; refine (if_neg (by first | assumption | (simp only [Int32.lt_iff_toInt_lt, Int32.le_iff_toInt_le, Int32.not_lt, Int32.not_le, ← Int32.toInt_inj, Int64.lt_iff_toInt_lt, Int64.le_iff_toInt_le, Int64.not_lt, Int64.not_le, Classical.not_not, Int32.reduceToInt, Int64.reduceToInt] at *; omega) | (simp_all; done))).trans ?_; refine (if_neg (by first | assumption | (simp only [Int32.lt_iff_toInt_lt, Int32.le_iff_toInt_le, Int32.not_lt, Int32.not_le, ← Int32.toInt_inj, Int64.lt_iff_toInt_lt, Int64.le_iff_toInt_le, Int64.not_lt, Int64.not_le, Classical.not_not, Int32.reduceToInt, Int64.reduceToInt] at *; omega) | (simp_all; done))).trans ?_; refine (if_neg (by first | assumption | (simp only [Int32.lt_iff_toInt_lt, Int32.le_iff_toInt_le, Int32.not_lt, Int32.not_le, ← Int32.toInt_inj, Int64.lt_iff_toInt_lt, Int64.le_iff_toInt_le, Int64.not_lt, Int64.not_le, Classical.not_not, Int32.reduceToInt, Int64.reduceToInt] at *; omega) | (simp_all; done))).trans ?_; refine (if_pos (by first | assumption | (simp only [Int32.lt_iff_toInt_lt, Int32.le_iff_toInt_le, Int32.not_lt, Int32.not_le, ← Int32.toInt_inj, Int64.lt_iff_toInt_lt, Int64.le_iff_toInt_le, Int64.not_lt, Int64.not_le, Classical.not_not, Int32.reduceToInt, Int64.reduceToInt] at *; omega) | (simp_all; done))).trans ?_; first | (with_reducible rfl) | (simp only [*, ix_0, ix_1, ix_2, ix_3, ix_4, rC]; done) | (simp [*, ix_0, ix_1, ix_2, ix_3, ix_4, rC]; done) | rfl | (simp_all [ix_0, ix_1, ix_2, ix_3, ix_4]; done)))
    refine xg_tswO (pc := 26) (tgt := 126) dX6_of_26 (by have := lv_neT (a := 0) w26_0 (by decide); have := lv_neT (a := 1) w26_1 (by decide); have := lv_neT (a := 2) w26_2 (by decide); have := lv_neT (a := 3) w26_3 (by decide); have := lv_neT (a := 4) w26_4 (by decide); have := lv_neT (a := 5) w26_5 (by decide); have := lv_neT (a := 6) w26_6 (by decide); have := lv_neT (a := 7) w26_7 (by decide); omega) (by decide) ?_
    refine xg_aload_n (pc := 126) dX6_of_126 rfl ?_
    refine xg_ldc (v := -1000000001) (pc := 127) dX6_of_127 ccX6_64 ?_
    refine xg_cvI (pc := 129) (h1 := hp (tri f0 f1 f2) (o.1, upd o.2.1 0 (o.2.1 0 + 1), o.2.2.1, o.2.2.2.1, o.2.2.2.2.1, o.2.2.2.2.2.1, o.2.2.2.2.2.2.1, o.2.2.2.2.2.2.2.1, o.2.2.2.2.2.2.2.2.1, o.2.2.2.2.2.2.2.2.2.1, o.2.2.2.2.2.2.2.2.2.2) mf wf q) (x := -1000000001) (M' := mX6_finding) dX6_of_129 lkX6_65 mcX6_finding hp_0 rfl (ev_X6_finding (j := 0) (by decide) (by decide)) rfl rfl (Nat.le_of_ble_eq_true rfl) ?_
    exact xg_iret (pc := 132) dX6_of_132 rfl (cqR (j := (some 0)) (by unfold sp_of; refine (if_pos (by first | assumption | (simp only [Int32.lt_iff_toInt_lt, Int32.le_iff_toInt_le, Int32.not_lt, Int32.not_le, ← Int32.toInt_inj, Int64.lt_iff_toInt_lt, Int64.le_iff_toInt_le, Int64.not_lt, Int64.not_le, Classical.not_not, Int32.reduceToInt, Int64.reduceToInt] at *; omega) | (simp_all; done))).trans ?_; refine (if_neg (by first | assumption | (simp only [Int32.lt_iff_toInt_lt, Int32.le_iff_toInt_le, Int32.not_lt, Int32.not_le, ← Int32.toInt_inj, Int64.lt_iff_toInt_lt, Int64.le_iff_toInt_le, Int64.not_lt, Int64.not_le, Classical.not_not, Int32.reduceToInt, Int64.reduceToInt] at *; omega) | (simp_all; done))).trans ?_; refine (if_neg (by first | assumption | (simp only [Int32.lt_iff_toInt_lt, Int32.le_iff_toInt_le, Int32.not_lt, Int32.not_le, ← Int32.toInt_inj, Int64.lt_iff_toInt_lt, Int64.le_iff_toInt_le, Int64.not_lt, Int64.not_le, Classical.not_not, Int32.reduceToInt, Int64.reduceToInt] at *; omega) | (simp_all; done))).trans ?_; refine (if_neg (by first | assumption | (simp only [Int32.lt_iff_toInt_lt, Int32.le_iff_toInt_le, Int32.not_lt, Int32.not_le, ← Int32.toInt_inj, Int64.lt_iff_toInt_lt, Int64.le_iff_toInt_le, Int64.not_lt, Int64.not_le, Classical.not_not, Int32.reduceToInt, Int64.reduceToInt] at *; omega) | (simp_all; done))).trans ?_; refine (if_neg (by first | assumption | (simp only [Int32.lt_iff_toInt_lt, Int32.le_iff_toInt_le, Int32.not_lt, Int32.not_le, ← Int32.toInt_inj, Int64.lt_iff_toInt_lt, Int64.le_iff_toInt_le, Int64.not_lt, Int64.not_le, Classical.not_not, Int32.reduceToInt, Int64.reduceToInt] at *; omega) | (simp_all; done))).trans ?_; first | (with_reducible rfl) | (simp only [*, ix_0, ix_1, ix_2, ix_3, ix_4, rC]; done) | (simp [*, ix_0, ix_1, ix_2, ix_3, ix_4, rC]; done) | rfl | (simp_all [ix_0, ix_1, ix_2, ix_3, ix_4]; done)))
  ·
    refine xg_aload_n (pc := 8) dX6_of_8 rfl ?_
    refine xg_ldc (v := -1000000001) (pc := 9) dX6_of_9 ccX6_64 ?_
    refine xg_cvI (pc := 11) (h1 := hp (tri f0 f1 f2) (o.1, upd o.2.1 0 (o.2.1 0 + 1), o.2.2.1, o.2.2.2.1, o.2.2.2.2.1, o.2.2.2.2.2.1, o.2.2.2.2.2.2.1, o.2.2.2.2.2.2.2.1, o.2.2.2.2.2.2.2.2.1, o.2.2.2.2.2.2.2.2.2.1, o.2.2.2.2.2.2.2.2.2.2) mf wf q) (x := -1000000001) (M' := mX6_finding) dX6_of_11 lkX6_65 mcX6_finding hp_0 rfl (ev_X6_finding (j := 0) (by decide) (by decide)) rfl rfl (Nat.le_of_ble_eq_true rfl) ?_
    exact xg_iret (pc := 14) dX6_of_14 rfl (cqR (j := (some 0)) (by unfold sp_of; refine (if_neg (by first | assumption | (simp only [Int32.lt_iff_toInt_lt, Int32.le_iff_toInt_le, Int32.not_lt, Int32.not_le, ← Int32.toInt_inj, Int64.lt_iff_toInt_lt, Int64.le_iff_toInt_le, Int64.not_lt, Int64.not_le, Classical.not_not, Int32.reduceToInt, Int64.reduceToInt] at *; omega) | (simp_all; done))).trans ?_; first | (with_reducible rfl) | (simp only [*, ix_0, ix_1, ix_2, ix_3, ix_4, rC]; done) | (simp [*, ix_0, ix_1, ix_2, ix_3, ix_4, rC]; done) | rfl | (simp_all [ix_0, ix_1, ix_2, ix_3, ix_4]; done)))
set_option maxRecDepth 100000 in
set_option maxHeartbeats 4000000 in
theorem ev_X6_set {t w v : Int32} (ok : okN f0) : xEv X false (d + 2) 0 0 mX6_set [.ref 0, .int t, .int w, .int v] (hp (tri f0 f1 f2) o mf wf q) (CQ f2 o mf wf q (sp_set f0 t w v)) := by
  have h8 := ok.2.1
  refine xEv.of (ls := [some (.ref 0), some (.int t), some (.int w), some (.int v), none, none]) mcX6_set.1.2.2.2.2 (Nat.le_of_ble_eq_true rfl) rfl ?_
  refine xg_aload_n (pc := 0) dX6_set_0 rfl ?_
  refine xg_iload_n (pc := 1) dX6_set_1 rfl ?_
  refine xg_cvI (pc := 2) (h1 := hp (tri f0 f1 f2) o mf wf q) (x := if 0 ≤ t ∧ t < f0 3 then 1 else 0) (M' := mX6_isThing) dX6_set_2 lkX6_99 mcX6_isThing hp_0 rfl (ev_X6_isThing) rfl rfl (Nat.le_of_ble_eq_true rfl) ?_
  refine xg_bnz (pc := 5) (tgt := 15) dX6_set_5 (by decide) (fun c_5 => ?_) (fun c_5 => ?_)
  ·
    obtain ⟨tn, htn, rfl⟩ := idxT ok c_5
    have etn : ix (nI tn) = tn := nI_clamp (by omega)
    refine xg_aload_n (pc := 15) dX6_set_15 rfl ?_
    refine xg_get (pc := 16) dX6_set_16 flX6_10 hp_0 rfl ?_
    refine xg_get (pc := 19) dX6_set_19 flX6_102 (hp_lake0 ) rfl ?_
    refine xg_iload_n (pc := 22) dX6_set_22 rfl ?_
    refine xg_aald (pc := 23) (r := 3 + 16 * 0 + tn) tn dX6_set_23 (hp_tarr0 ) (by decide) rfl (by omega) (by decide) (if_pos (by omega)) ?_
    refine xg_astore (pc := 24) (ls' := [some (.ref 0), some (.int (nI tn)), some (.int w), some (.int v), some (.ref (3 + 16 * 0 + tn)), none]) dX6_set_24 (by decide) rfl ?_
    refine xg_iload_n (pc := 26) dX6_set_26 rfl ?_
    refine xg_iconst (v := 1) (pc := 27) dX6_set_27 (by decide) ?_
    refine xg_icmp_ne (pc := 28) (tgt := 54) dX6_set_28 (by decide) (fun c_28 => ?_) (fun c_28 => ?_)
    ·
      have n1 : ¬ (w = 1 ∧ 0 ≤ v ∧ v ≤ 7) := by first | exact (fun q => c_28 q.1) | exact (fun q => c_35 q.2)
      refine xg_iload_n (pc := 54) dX6_set_54 rfl ?_
      refine xg_iconst (v := 2) (pc := 55) dX6_set_55 (by decide) ?_
      refine xg_icmp_ne (pc := 56) (tgt := 85) dX6_set_56 (by decide) (fun c_56 => ?_) (fun c_56 => ?_)
      ·
        have n2 : ¬ (w = 2 ∧ 1 ≤ v ∧ v ≤ 6) := by first | exact (fun q => c_56 q.1) | exact (fun q => c_66 q.2)
        refine xg_iload_n (pc := 85) dX6_set_85 rfl ?_
        refine xg_iconst (v := 3) (pc := 86) dX6_set_86 (by decide) ?_
        refine xg_icmp_ne (pc := 87) (tgt := 116) dX6_set_87 (by decide) (fun c_87 => ?_) (fun c_87 => ?_)
        ·
          have n3 : ¬ (w = 3 ∧ 0 ≤ v ∧ v ≤ 99) := by first | exact (fun q => c_87 q.1) | exact (fun q => c_97 q.2)
          refine xg_iload_n (pc := 116) dX6_set_116 rfl ?_
          refine xg_iconst (v := 4) (pc := 117) dX6_set_117 (by decide) ?_
          refine xg_icmp_ne (pc := 118) (tgt := 147) dX6_set_118 (by decide) (fun c_118 => ?_) (fun c_118 => ?_)
          ·
            have n4 : ¬ (w = 4 ∧ 0 ≤ v ∧ v ≤ 9) := by first | exact (fun q => c_118 q.1) | exact (fun q => c_128 q.2)
            have hn : ¬ may w v := fun q => q.elim n1 (fun q => q.elim n2 (fun q => q.elim n3 n4))
            refine xg_aload_n (pc := 147) dX6_set_147 rfl ?_
            refine xg_ldc (v := -1000000001) (pc := 148) dX6_set_148 ccX6_64 ?_
            refine xg_cvI (pc := 150) (h1 := hp (tri f0 f1 f2) (o.1, upd o.2.1 0 (o.2.1 0 + 1), o.2.2.1, o.2.2.2.1, o.2.2.2.2.1, o.2.2.2.2.2.1, o.2.2.2.2.2.2.1, o.2.2.2.2.2.2.2.1, o.2.2.2.2.2.2.2.2.1, o.2.2.2.2.2.2.2.2.2.1, o.2.2.2.2.2.2.2.2.2.2) mf wf q) (x := -1000000001) (M' := mX6_finding) dX6_set_150 lkX6_65 mcX6_finding hp_0 rfl (ev_X6_finding (j := 0) (by decide) (by decide)) rfl rfl (Nat.le_of_ble_eq_true rfl) ?_
            refine xg_istore (pc := 153) (ls' := [some (.ref 0), some (.int (nI tn)), some (.int w), some (.int v), some (.ref (3 + 16 * 0 + tn)), some (.int (-1000000001))]) dX6_set_153 (by decide) rfl ?_
            refine xg_iload (pc := 155) dX6_set_155 rfl ?_
            exact xg_iret (pc := 157) dX6_set_157 rfl (cqR (j := (some 0)) (by unfold sp_set; refine (if_neg (by first | exact (fun q => hn q.2) | exact (fun q => c_5 q.1) | exact ⟨c_5, Or.inl ⟨c_28, c_35⟩⟩ | exact ⟨c_5, Or.inr (Or.inl ⟨c_56, c_66⟩)⟩ | exact ⟨c_5, Or.inr (Or.inr (Or.inl ⟨c_87, c_97⟩))⟩ | exact ⟨c_5, Or.inr (Or.inr (Or.inr ⟨c_118, c_128⟩))⟩)).trans ?_; first | (with_reducible rfl) | (simp only [*, ix_0, ix_1, ix_2, ix_3, ix_4]; done) | (simp [*, ix_0, ix_1, ix_2, ix_3, ix_4]; done) | rfl | (simp_all [ix_0, ix_1, ix_2, ix_3, ix_4]; done)))
          ·
            refine xg_iload_n (pc := 121) dX6_set_121 rfl ?_
            refine xg_iconst (v := 0) (pc := 122) dX6_set_122 (by decide) ?_
            refine xg_bipush (v := 9) (pc := 123) dX6_set_123 (by decide) ?_
            refine xg_csI (pc := 125) (h1 := hp (tri f0 f1 f2) o mf wf q) (x := if 0 ≤ v ∧ v ≤ 9 then 1 else 0) (M' := mX6_isWithin) dX6_set_125 lkX6_53 mcX6_isWithin (ev_X6_isWithin) rfl rfl (Nat.le_of_ble_eq_true rfl) ?_
            refine xg_bz (pc := 128) (tgt := 147) dX6_set_128 (by decide) (fun c_128 => ?_) (fun c_128 => ?_)
            ·
              have n4 : ¬ (w = 4 ∧ 0 ≤ v ∧ v ≤ 9) := by first | exact (fun q => c_118 q.1) | exact (fun q => c_128 q.2)
              have hn : ¬ may w v := fun q => q.elim n1 (fun q => q.elim n2 (fun q => q.elim n3 n4))
              refine xg_aload_n (pc := 147) dX6_set_147 rfl ?_
              refine xg_ldc (v := -1000000001) (pc := 148) dX6_set_148 ccX6_64 ?_
              refine xg_cvI (pc := 150) (h1 := hp (tri f0 f1 f2) (o.1, upd o.2.1 0 (o.2.1 0 + 1), o.2.2.1, o.2.2.2.1, o.2.2.2.2.1, o.2.2.2.2.2.1, o.2.2.2.2.2.2.1, o.2.2.2.2.2.2.2.1, o.2.2.2.2.2.2.2.2.1, o.2.2.2.2.2.2.2.2.2.1, o.2.2.2.2.2.2.2.2.2.2) mf wf q) (x := -1000000001) (M' := mX6_finding) dX6_set_150 lkX6_65 mcX6_finding hp_0 rfl (ev_X6_finding (j := 0) (by decide) (by decide)) rfl rfl (Nat.le_of_ble_eq_true rfl) ?_
              refine xg_istore (pc := 153) (ls' := [some (.ref 0), some (.int (nI tn)), some (.int w), some (.int v), some (.ref (3 + 16 * 0 + tn)), some (.int (-1000000001))]) dX6_set_153 (by decide) rfl ?_
              refine xg_iload (pc := 155) dX6_set_155 rfl ?_
              exact xg_iret (pc := 157) dX6_set_157 rfl (cqR (j := (some 0)) (by unfold sp_set; refine (if_neg (by first | exact (fun q => hn q.2) | exact (fun q => c_5 q.1) | exact ⟨c_5, Or.inl ⟨c_28, c_35⟩⟩ | exact ⟨c_5, Or.inr (Or.inl ⟨c_56, c_66⟩)⟩ | exact ⟨c_5, Or.inr (Or.inr (Or.inl ⟨c_87, c_97⟩))⟩ | exact ⟨c_5, Or.inr (Or.inr (Or.inr ⟨c_118, c_128⟩))⟩)).trans ?_; first | (with_reducible rfl) | (simp only [*, ix_0, ix_1, ix_2, ix_3, ix_4]; done) | (simp [*, ix_0, ix_1, ix_2, ix_3, ix_4]; done) | rfl | (simp_all [ix_0, ix_1, ix_2, ix_3, ix_4]; done)))
            ·
              refine xg_aload (pc := 131) dX6_set_131 rfl ?_
              refine xg_get (pc := 133) dX6_set_133 flX6_120 (hp_thing0  (by omega)) rfl ?_
              refine xg_istore (pc := 136) (ls' := [some (.ref 0), some (.int (nI tn)), some (.int w), some (.int v), some (.ref (3 + 16 * 0 + tn)), some (.int (f0 (5 + 5 * tn + 4)))]) dX6_set_136 (by decide) rfl ?_
              refine xg_aload (pc := 138) dX6_set_138 rfl ?_
              refine xg_iload_n (pc := 140) dX6_set_140 rfl ?_
              refine xg_puti (pc := 141) (h' := hp (tri (upd f0 (5 + 5 * tn + 4) v) f1 f2) o mf wf q) dX6_set_141 flX6_120 (hp_thing0  (by omega)) (Nat.le_of_ble_eq_true rfl) (hs_t0  (c := 4) (by omega) (by decide)) ?_
              refine xg_goto (pc := 144) (tgt := 155) dX6_set_144 (by decide) ?_
              refine xg_iload (pc := 155) dX6_set_155 rfl ?_
              exact xg_iret (pc := 157) dX6_set_157 rfl (cqR (j := none) (by unfold sp_set; refine (if_pos (by first | exact (fun q => hn q.2) | exact (fun q => c_5 q.1) | exact ⟨c_5, Or.inl ⟨c_28, c_35⟩⟩ | exact ⟨c_5, Or.inr (Or.inl ⟨c_56, c_66⟩)⟩ | exact ⟨c_5, Or.inr (Or.inr (Or.inl ⟨c_87, c_97⟩))⟩ | exact ⟨c_5, Or.inr (Or.inr (Or.inr ⟨c_118, c_128⟩))⟩)).trans ?_; first | (with_reducible rfl) | (simp only [*, ix_0, ix_1, ix_2, ix_3, ix_4]; done) | (simp [*, ix_0, ix_1, ix_2, ix_3, ix_4]; done) | rfl | (simp_all [ix_0, ix_1, ix_2, ix_3, ix_4]; done)))
        ·
          refine xg_iload_n (pc := 90) dX6_set_90 rfl ?_
          refine xg_iconst (v := 0) (pc := 91) dX6_set_91 (by decide) ?_
          refine xg_bipush (v := 99) (pc := 92) dX6_set_92 (by decide) ?_
          refine xg_csI (pc := 94) (h1 := hp (tri f0 f1 f2) o mf wf q) (x := if 0 ≤ v ∧ v ≤ 99 then 1 else 0) (M' := mX6_isWithin) dX6_set_94 lkX6_53 mcX6_isWithin (ev_X6_isWithin) rfl rfl (Nat.le_of_ble_eq_true rfl) ?_
          refine xg_bz (pc := 97) (tgt := 116) dX6_set_97 (by decide) (fun c_97 => ?_) (fun c_97 => ?_)
          ·
            have n3 : ¬ (w = 3 ∧ 0 ≤ v ∧ v ≤ 99) := by first | exact (fun q => c_87 q.1) | exact (fun q => c_97 q.2)
            refine xg_iload_n (pc := 116) dX6_set_116 rfl ?_
            refine xg_iconst (v := 4) (pc := 117) dX6_set_117 (by decide) ?_
            refine xg_icmp_ne (pc := 118) (tgt := 147) dX6_set_118 (by decide) (fun c_118 => ?_) (fun c_118 => ?_)
            ·
              have n4 : ¬ (w = 4 ∧ 0 ≤ v ∧ v ≤ 9) := by first | exact (fun q => c_118 q.1) | exact (fun q => c_128 q.2)
              have hn : ¬ may w v := fun q => q.elim n1 (fun q => q.elim n2 (fun q => q.elim n3 n4))
              refine xg_aload_n (pc := 147) dX6_set_147 rfl ?_
              refine xg_ldc (v := -1000000001) (pc := 148) dX6_set_148 ccX6_64 ?_
              refine xg_cvI (pc := 150) (h1 := hp (tri f0 f1 f2) (o.1, upd o.2.1 0 (o.2.1 0 + 1), o.2.2.1, o.2.2.2.1, o.2.2.2.2.1, o.2.2.2.2.2.1, o.2.2.2.2.2.2.1, o.2.2.2.2.2.2.2.1, o.2.2.2.2.2.2.2.2.1, o.2.2.2.2.2.2.2.2.2.1, o.2.2.2.2.2.2.2.2.2.2) mf wf q) (x := -1000000001) (M' := mX6_finding) dX6_set_150 lkX6_65 mcX6_finding hp_0 rfl (ev_X6_finding (j := 0) (by decide) (by decide)) rfl rfl (Nat.le_of_ble_eq_true rfl) ?_
              refine xg_istore (pc := 153) (ls' := [some (.ref 0), some (.int (nI tn)), some (.int w), some (.int v), some (.ref (3 + 16 * 0 + tn)), some (.int (-1000000001))]) dX6_set_153 (by decide) rfl ?_
              refine xg_iload (pc := 155) dX6_set_155 rfl ?_
              exact xg_iret (pc := 157) dX6_set_157 rfl (cqR (j := (some 0)) (by unfold sp_set; refine (if_neg (by first | exact (fun q => hn q.2) | exact (fun q => c_5 q.1) | exact ⟨c_5, Or.inl ⟨c_28, c_35⟩⟩ | exact ⟨c_5, Or.inr (Or.inl ⟨c_56, c_66⟩)⟩ | exact ⟨c_5, Or.inr (Or.inr (Or.inl ⟨c_87, c_97⟩))⟩ | exact ⟨c_5, Or.inr (Or.inr (Or.inr ⟨c_118, c_128⟩))⟩)).trans ?_; first | (with_reducible rfl) | (simp only [*, ix_0, ix_1, ix_2, ix_3, ix_4]; done) | (simp [*, ix_0, ix_1, ix_2, ix_3, ix_4]; done) | rfl | (simp_all [ix_0, ix_1, ix_2, ix_3, ix_4]; done)))
            ·
              refine xg_iload_n (pc := 121) dX6_set_121 rfl ?_
              refine xg_iconst (v := 0) (pc := 122) dX6_set_122 (by decide) ?_
              refine xg_bipush (v := 9) (pc := 123) dX6_set_123 (by decide) ?_
              refine xg_csI (pc := 125) (h1 := hp (tri f0 f1 f2) o mf wf q) (x := if 0 ≤ v ∧ v ≤ 9 then 1 else 0) (M' := mX6_isWithin) dX6_set_125 lkX6_53 mcX6_isWithin (ev_X6_isWithin) rfl rfl (Nat.le_of_ble_eq_true rfl) ?_
              refine xg_bz (pc := 128) (tgt := 147) dX6_set_128 (by decide) (fun c_128 => ?_) (fun c_128 => ?_)
              ·
                have n4 : ¬ (w = 4 ∧ 0 ≤ v ∧ v ≤ 9) := by first | exact (fun q => c_118 q.1) | exact (fun q => c_128 q.2)
                have hn : ¬ may w v := fun q => q.elim n1 (fun q => q.elim n2 (fun q => q.elim n3 n4))
                refine xg_aload_n (pc := 147) dX6_set_147 rfl ?_
                refine xg_ldc (v := -1000000001) (pc := 148) dX6_set_148 ccX6_64 ?_
                refine xg_cvI (pc := 150) (h1 := hp (tri f0 f1 f2) (o.1, upd o.2.1 0 (o.2.1 0 + 1), o.2.2.1, o.2.2.2.1, o.2.2.2.2.1, o.2.2.2.2.2.1, o.2.2.2.2.2.2.1, o.2.2.2.2.2.2.2.1, o.2.2.2.2.2.2.2.2.1, o.2.2.2.2.2.2.2.2.2.1, o.2.2.2.2.2.2.2.2.2.2) mf wf q) (x := -1000000001) (M' := mX6_finding) dX6_set_150 lkX6_65 mcX6_finding hp_0 rfl (ev_X6_finding (j := 0) (by decide) (by decide)) rfl rfl (Nat.le_of_ble_eq_true rfl) ?_
                refine xg_istore (pc := 153) (ls' := [some (.ref 0), some (.int (nI tn)), some (.int w), some (.int v), some (.ref (3 + 16 * 0 + tn)), some (.int (-1000000001))]) dX6_set_153 (by decide) rfl ?_
                refine xg_iload (pc := 155) dX6_set_155 rfl ?_
                exact xg_iret (pc := 157) dX6_set_157 rfl (cqR (j := (some 0)) (by unfold sp_set; refine (if_neg (by first | exact (fun q => hn q.2) | exact (fun q => c_5 q.1) | exact ⟨c_5, Or.inl ⟨c_28, c_35⟩⟩ | exact ⟨c_5, Or.inr (Or.inl ⟨c_56, c_66⟩)⟩ | exact ⟨c_5, Or.inr (Or.inr (Or.inl ⟨c_87, c_97⟩))⟩ | exact ⟨c_5, Or.inr (Or.inr (Or.inr ⟨c_118, c_128⟩))⟩)).trans ?_; first | (with_reducible rfl) | (simp only [*, ix_0, ix_1, ix_2, ix_3, ix_4]; done) | (simp [*, ix_0, ix_1, ix_2, ix_3, ix_4]; done) | rfl | (simp_all [ix_0, ix_1, ix_2, ix_3, ix_4]; done)))
              ·
                refine xg_aload (pc := 131) dX6_set_131 rfl ?_
                refine xg_get (pc := 133) dX6_set_133 flX6_120 (hp_thing0  (by omega)) rfl ?_
                refine xg_istore (pc := 136) (ls' := [some (.ref 0), some (.int (nI tn)), some (.int w), some (.int v), some (.ref (3 + 16 * 0 + tn)), some (.int (f0 (5 + 5 * tn + 4)))]) dX6_set_136 (by decide) rfl ?_
                refine xg_aload (pc := 138) dX6_set_138 rfl ?_
                refine xg_iload_n (pc := 140) dX6_set_140 rfl ?_
                refine xg_puti (pc := 141) (h' := hp (tri (upd f0 (5 + 5 * tn + 4) v) f1 f2) o mf wf q) dX6_set_141 flX6_120 (hp_thing0  (by omega)) (Nat.le_of_ble_eq_true rfl) (hs_t0  (c := 4) (by omega) (by decide)) ?_
                refine xg_goto (pc := 144) (tgt := 155) dX6_set_144 (by decide) ?_
                refine xg_iload (pc := 155) dX6_set_155 rfl ?_
                exact xg_iret (pc := 157) dX6_set_157 rfl (cqR (j := none) (by unfold sp_set; refine (if_pos (by first | exact (fun q => hn q.2) | exact (fun q => c_5 q.1) | exact ⟨c_5, Or.inl ⟨c_28, c_35⟩⟩ | exact ⟨c_5, Or.inr (Or.inl ⟨c_56, c_66⟩)⟩ | exact ⟨c_5, Or.inr (Or.inr (Or.inl ⟨c_87, c_97⟩))⟩ | exact ⟨c_5, Or.inr (Or.inr (Or.inr ⟨c_118, c_128⟩))⟩)).trans ?_; first | (with_reducible rfl) | (simp only [*, ix_0, ix_1, ix_2, ix_3, ix_4]; done) | (simp [*, ix_0, ix_1, ix_2, ix_3, ix_4]; done) | rfl | (simp_all [ix_0, ix_1, ix_2, ix_3, ix_4]; done)))
          ·
            refine xg_aload (pc := 100) dX6_set_100 rfl ?_
            refine xg_get (pc := 102) dX6_set_102 flX6_117 (hp_thing0  (by omega)) rfl ?_
            refine xg_istore (pc := 105) (ls' := [some (.ref 0), some (.int (nI tn)), some (.int w), some (.int v), some (.ref (3 + 16 * 0 + tn)), some (.int (f0 (5 + 5 * tn + 3)))]) dX6_set_105 (by decide) rfl ?_
            refine xg_aload (pc := 107) dX6_set_107 rfl ?_
            refine xg_iload_n (pc := 109) dX6_set_109 rfl ?_
            refine xg_puti (pc := 110) (h' := hp (tri (upd f0 (5 + 5 * tn + 3) v) f1 f2) o mf wf q) dX6_set_110 flX6_117 (hp_thing0  (by omega)) (Nat.le_of_ble_eq_true rfl) (hs_t0  (c := 3) (by omega) (by decide)) ?_
            refine xg_goto (pc := 113) (tgt := 155) dX6_set_113 (by decide) ?_
            refine xg_iload (pc := 155) dX6_set_155 rfl ?_
            exact xg_iret (pc := 157) dX6_set_157 rfl (cqR (j := none) (by unfold sp_set; refine (if_pos (by first | exact (fun q => hn q.2) | exact (fun q => c_5 q.1) | exact ⟨c_5, Or.inl ⟨c_28, c_35⟩⟩ | exact ⟨c_5, Or.inr (Or.inl ⟨c_56, c_66⟩)⟩ | exact ⟨c_5, Or.inr (Or.inr (Or.inl ⟨c_87, c_97⟩))⟩ | exact ⟨c_5, Or.inr (Or.inr (Or.inr ⟨c_118, c_128⟩))⟩)).trans ?_; first | (with_reducible rfl) | (simp only [*, ix_0, ix_1, ix_2, ix_3, ix_4]; done) | (simp [*, ix_0, ix_1, ix_2, ix_3, ix_4]; done) | rfl | (simp_all [ix_0, ix_1, ix_2, ix_3, ix_4]; done)))
      ·
        refine xg_iload_n (pc := 59) dX6_set_59 rfl ?_
        refine xg_iconst (v := 1) (pc := 60) dX6_set_60 (by decide) ?_
        refine xg_bipush (v := 6) (pc := 61) dX6_set_61 (by decide) ?_
        refine xg_csI (pc := 63) (h1 := hp (tri f0 f1 f2) o mf wf q) (x := if 1 ≤ v ∧ v ≤ 6 then 1 else 0) (M' := mX6_isWithin) dX6_set_63 lkX6_53 mcX6_isWithin (ev_X6_isWithin) rfl rfl (Nat.le_of_ble_eq_true rfl) ?_
        refine xg_bz (pc := 66) (tgt := 85) dX6_set_66 (by decide) (fun c_66 => ?_) (fun c_66 => ?_)
        ·
          have n2 : ¬ (w = 2 ∧ 1 ≤ v ∧ v ≤ 6) := by first | exact (fun q => c_56 q.1) | exact (fun q => c_66 q.2)
          refine xg_iload_n (pc := 85) dX6_set_85 rfl ?_
          refine xg_iconst (v := 3) (pc := 86) dX6_set_86 (by decide) ?_
          refine xg_icmp_ne (pc := 87) (tgt := 116) dX6_set_87 (by decide) (fun c_87 => ?_) (fun c_87 => ?_)
          ·
            have n3 : ¬ (w = 3 ∧ 0 ≤ v ∧ v ≤ 99) := by first | exact (fun q => c_87 q.1) | exact (fun q => c_97 q.2)
            refine xg_iload_n (pc := 116) dX6_set_116 rfl ?_
            refine xg_iconst (v := 4) (pc := 117) dX6_set_117 (by decide) ?_
            refine xg_icmp_ne (pc := 118) (tgt := 147) dX6_set_118 (by decide) (fun c_118 => ?_) (fun c_118 => ?_)
            ·
              have n4 : ¬ (w = 4 ∧ 0 ≤ v ∧ v ≤ 9) := by first | exact (fun q => c_118 q.1) | exact (fun q => c_128 q.2)
              have hn : ¬ may w v := fun q => q.elim n1 (fun q => q.elim n2 (fun q => q.elim n3 n4))
              refine xg_aload_n (pc := 147) dX6_set_147 rfl ?_
              refine xg_ldc (v := -1000000001) (pc := 148) dX6_set_148 ccX6_64 ?_
              refine xg_cvI (pc := 150) (h1 := hp (tri f0 f1 f2) (o.1, upd o.2.1 0 (o.2.1 0 + 1), o.2.2.1, o.2.2.2.1, o.2.2.2.2.1, o.2.2.2.2.2.1, o.2.2.2.2.2.2.1, o.2.2.2.2.2.2.2.1, o.2.2.2.2.2.2.2.2.1, o.2.2.2.2.2.2.2.2.2.1, o.2.2.2.2.2.2.2.2.2.2) mf wf q) (x := -1000000001) (M' := mX6_finding) dX6_set_150 lkX6_65 mcX6_finding hp_0 rfl (ev_X6_finding (j := 0) (by decide) (by decide)) rfl rfl (Nat.le_of_ble_eq_true rfl) ?_
              refine xg_istore (pc := 153) (ls' := [some (.ref 0), some (.int (nI tn)), some (.int w), some (.int v), some (.ref (3 + 16 * 0 + tn)), some (.int (-1000000001))]) dX6_set_153 (by decide) rfl ?_
              refine xg_iload (pc := 155) dX6_set_155 rfl ?_
              exact xg_iret (pc := 157) dX6_set_157 rfl (cqR (j := (some 0)) (by unfold sp_set; refine (if_neg (by first | exact (fun q => hn q.2) | exact (fun q => c_5 q.1) | exact ⟨c_5, Or.inl ⟨c_28, c_35⟩⟩ | exact ⟨c_5, Or.inr (Or.inl ⟨c_56, c_66⟩)⟩ | exact ⟨c_5, Or.inr (Or.inr (Or.inl ⟨c_87, c_97⟩))⟩ | exact ⟨c_5, Or.inr (Or.inr (Or.inr ⟨c_118, c_128⟩))⟩)).trans ?_; first | (with_reducible rfl) | (simp only [*, ix_0, ix_1, ix_2, ix_3, ix_4]; done) | (simp [*, ix_0, ix_1, ix_2, ix_3, ix_4]; done) | rfl | (simp_all [ix_0, ix_1, ix_2, ix_3, ix_4]; done)))
            ·
              refine xg_iload_n (pc := 121) dX6_set_121 rfl ?_
              refine xg_iconst (v := 0) (pc := 122) dX6_set_122 (by decide) ?_
              refine xg_bipush (v := 9) (pc := 123) dX6_set_123 (by decide) ?_
              refine xg_csI (pc := 125) (h1 := hp (tri f0 f1 f2) o mf wf q) (x := if 0 ≤ v ∧ v ≤ 9 then 1 else 0) (M' := mX6_isWithin) dX6_set_125 lkX6_53 mcX6_isWithin (ev_X6_isWithin) rfl rfl (Nat.le_of_ble_eq_true rfl) ?_
              refine xg_bz (pc := 128) (tgt := 147) dX6_set_128 (by decide) (fun c_128 => ?_) (fun c_128 => ?_)
              ·
                have n4 : ¬ (w = 4 ∧ 0 ≤ v ∧ v ≤ 9) := by first | exact (fun q => c_118 q.1) | exact (fun q => c_128 q.2)
                have hn : ¬ may w v := fun q => q.elim n1 (fun q => q.elim n2 (fun q => q.elim n3 n4))
                refine xg_aload_n (pc := 147) dX6_set_147 rfl ?_
                refine xg_ldc (v := -1000000001) (pc := 148) dX6_set_148 ccX6_64 ?_
                refine xg_cvI (pc := 150) (h1 := hp (tri f0 f1 f2) (o.1, upd o.2.1 0 (o.2.1 0 + 1), o.2.2.1, o.2.2.2.1, o.2.2.2.2.1, o.2.2.2.2.2.1, o.2.2.2.2.2.2.1, o.2.2.2.2.2.2.2.1, o.2.2.2.2.2.2.2.2.1, o.2.2.2.2.2.2.2.2.2.1, o.2.2.2.2.2.2.2.2.2.2) mf wf q) (x := -1000000001) (M' := mX6_finding) dX6_set_150 lkX6_65 mcX6_finding hp_0 rfl (ev_X6_finding (j := 0) (by decide) (by decide)) rfl rfl (Nat.le_of_ble_eq_true rfl) ?_
                refine xg_istore (pc := 153) (ls' := [some (.ref 0), some (.int (nI tn)), some (.int w), some (.int v), some (.ref (3 + 16 * 0 + tn)), some (.int (-1000000001))]) dX6_set_153 (by decide) rfl ?_
                refine xg_iload (pc := 155) dX6_set_155 rfl ?_
                exact xg_iret (pc := 157) dX6_set_157 rfl (cqR (j := (some 0)) (by unfold sp_set; refine (if_neg (by first | exact (fun q => hn q.2) | exact (fun q => c_5 q.1) | exact ⟨c_5, Or.inl ⟨c_28, c_35⟩⟩ | exact ⟨c_5, Or.inr (Or.inl ⟨c_56, c_66⟩)⟩ | exact ⟨c_5, Or.inr (Or.inr (Or.inl ⟨c_87, c_97⟩))⟩ | exact ⟨c_5, Or.inr (Or.inr (Or.inr ⟨c_118, c_128⟩))⟩)).trans ?_; first | (with_reducible rfl) | (simp only [*, ix_0, ix_1, ix_2, ix_3, ix_4]; done) | (simp [*, ix_0, ix_1, ix_2, ix_3, ix_4]; done) | rfl | (simp_all [ix_0, ix_1, ix_2, ix_3, ix_4]; done)))
              ·
                refine xg_aload (pc := 131) dX6_set_131 rfl ?_
                refine xg_get (pc := 133) dX6_set_133 flX6_120 (hp_thing0  (by omega)) rfl ?_
                refine xg_istore (pc := 136) (ls' := [some (.ref 0), some (.int (nI tn)), some (.int w), some (.int v), some (.ref (3 + 16 * 0 + tn)), some (.int (f0 (5 + 5 * tn + 4)))]) dX6_set_136 (by decide) rfl ?_
                refine xg_aload (pc := 138) dX6_set_138 rfl ?_
                refine xg_iload_n (pc := 140) dX6_set_140 rfl ?_
                refine xg_puti (pc := 141) (h' := hp (tri (upd f0 (5 + 5 * tn + 4) v) f1 f2) o mf wf q) dX6_set_141 flX6_120 (hp_thing0  (by omega)) (Nat.le_of_ble_eq_true rfl) (hs_t0  (c := 4) (by omega) (by decide)) ?_
                refine xg_goto (pc := 144) (tgt := 155) dX6_set_144 (by decide) ?_
                refine xg_iload (pc := 155) dX6_set_155 rfl ?_
                exact xg_iret (pc := 157) dX6_set_157 rfl (cqR (j := none) (by unfold sp_set; refine (if_pos (by first | exact (fun q => hn q.2) | exact (fun q => c_5 q.1) | exact ⟨c_5, Or.inl ⟨c_28, c_35⟩⟩ | exact ⟨c_5, Or.inr (Or.inl ⟨c_56, c_66⟩)⟩ | exact ⟨c_5, Or.inr (Or.inr (Or.inl ⟨c_87, c_97⟩))⟩ | exact ⟨c_5, Or.inr (Or.inr (Or.inr ⟨c_118, c_128⟩))⟩)).trans ?_; first | (with_reducible rfl) | (simp only [*, ix_0, ix_1, ix_2, ix_3, ix_4]; done) | (simp [*, ix_0, ix_1, ix_2, ix_3, ix_4]; done) | rfl | (simp_all [ix_0, ix_1, ix_2, ix_3, ix_4]; done)))
          ·
            refine xg_iload_n (pc := 90) dX6_set_90 rfl ?_
            refine xg_iconst (v := 0) (pc := 91) dX6_set_91 (by decide) ?_
            refine xg_bipush (v := 99) (pc := 92) dX6_set_92 (by decide) ?_
            refine xg_csI (pc := 94) (h1 := hp (tri f0 f1 f2) o mf wf q) (x := if 0 ≤ v ∧ v ≤ 99 then 1 else 0) (M' := mX6_isWithin) dX6_set_94 lkX6_53 mcX6_isWithin (ev_X6_isWithin) rfl rfl (Nat.le_of_ble_eq_true rfl) ?_
            refine xg_bz (pc := 97) (tgt := 116) dX6_set_97 (by decide) (fun c_97 => ?_) (fun c_97 => ?_)
            ·
              have n3 : ¬ (w = 3 ∧ 0 ≤ v ∧ v ≤ 99) := by first | exact (fun q => c_87 q.1) | exact (fun q => c_97 q.2)
              refine xg_iload_n (pc := 116) dX6_set_116 rfl ?_
              refine xg_iconst (v := 4) (pc := 117) dX6_set_117 (by decide) ?_
              refine xg_icmp_ne (pc := 118) (tgt := 147) dX6_set_118 (by decide) (fun c_118 => ?_) (fun c_118 => ?_)
              ·
                have n4 : ¬ (w = 4 ∧ 0 ≤ v ∧ v ≤ 9) := by first | exact (fun q => c_118 q.1) | exact (fun q => c_128 q.2)
                have hn : ¬ may w v := fun q => q.elim n1 (fun q => q.elim n2 (fun q => q.elim n3 n4))
                refine xg_aload_n (pc := 147) dX6_set_147 rfl ?_
                refine xg_ldc (v := -1000000001) (pc := 148) dX6_set_148 ccX6_64 ?_
                refine xg_cvI (pc := 150) (h1 := hp (tri f0 f1 f2) (o.1, upd o.2.1 0 (o.2.1 0 + 1), o.2.2.1, o.2.2.2.1, o.2.2.2.2.1, o.2.2.2.2.2.1, o.2.2.2.2.2.2.1, o.2.2.2.2.2.2.2.1, o.2.2.2.2.2.2.2.2.1, o.2.2.2.2.2.2.2.2.2.1, o.2.2.2.2.2.2.2.2.2.2) mf wf q) (x := -1000000001) (M' := mX6_finding) dX6_set_150 lkX6_65 mcX6_finding hp_0 rfl (ev_X6_finding (j := 0) (by decide) (by decide)) rfl rfl (Nat.le_of_ble_eq_true rfl) ?_
                refine xg_istore (pc := 153) (ls' := [some (.ref 0), some (.int (nI tn)), some (.int w), some (.int v), some (.ref (3 + 16 * 0 + tn)), some (.int (-1000000001))]) dX6_set_153 (by decide) rfl ?_
                refine xg_iload (pc := 155) dX6_set_155 rfl ?_
                exact xg_iret (pc := 157) dX6_set_157 rfl (cqR (j := (some 0)) (by unfold sp_set; refine (if_neg (by first | exact (fun q => hn q.2) | exact (fun q => c_5 q.1) | exact ⟨c_5, Or.inl ⟨c_28, c_35⟩⟩ | exact ⟨c_5, Or.inr (Or.inl ⟨c_56, c_66⟩)⟩ | exact ⟨c_5, Or.inr (Or.inr (Or.inl ⟨c_87, c_97⟩))⟩ | exact ⟨c_5, Or.inr (Or.inr (Or.inr ⟨c_118, c_128⟩))⟩)).trans ?_; first | (with_reducible rfl) | (simp only [*, ix_0, ix_1, ix_2, ix_3, ix_4]; done) | (simp [*, ix_0, ix_1, ix_2, ix_3, ix_4]; done) | rfl | (simp_all [ix_0, ix_1, ix_2, ix_3, ix_4]; done)))
              ·
                refine xg_iload_n (pc := 121) dX6_set_121 rfl ?_
                refine xg_iconst (v := 0) (pc := 122) dX6_set_122 (by decide) ?_
                refine xg_bipush (v := 9) (pc := 123) dX6_set_123 (by decide) ?_
                refine xg_csI (pc := 125) (h1 := hp (tri f0 f1 f2) o mf wf q) (x := if 0 ≤ v ∧ v ≤ 9 then 1 else 0) (M' := mX6_isWithin) dX6_set_125 lkX6_53 mcX6_isWithin (ev_X6_isWithin) rfl rfl (Nat.le_of_ble_eq_true rfl) ?_
                refine xg_bz (pc := 128) (tgt := 147) dX6_set_128 (by decide) (fun c_128 => ?_) (fun c_128 => ?_)
                ·
                  have n4 : ¬ (w = 4 ∧ 0 ≤ v ∧ v ≤ 9) := by first | exact (fun q => c_118 q.1) | exact (fun q => c_128 q.2)
                  have hn : ¬ may w v := fun q => q.elim n1 (fun q => q.elim n2 (fun q => q.elim n3 n4))
                  refine xg_aload_n (pc := 147) dX6_set_147 rfl ?_
                  refine xg_ldc (v := -1000000001) (pc := 148) dX6_set_148 ccX6_64 ?_
                  refine xg_cvI (pc := 150) (h1 := hp (tri f0 f1 f2) (o.1, upd o.2.1 0 (o.2.1 0 + 1), o.2.2.1, o.2.2.2.1, o.2.2.2.2.1, o.2.2.2.2.2.1, o.2.2.2.2.2.2.1, o.2.2.2.2.2.2.2.1, o.2.2.2.2.2.2.2.2.1, o.2.2.2.2.2.2.2.2.2.1, o.2.2.2.2.2.2.2.2.2.2) mf wf q) (x := -1000000001) (M' := mX6_finding) dX6_set_150 lkX6_65 mcX6_finding hp_0 rfl (ev_X6_finding (j := 0) (by decide) (by decide)) rfl rfl (Nat.le_of_ble_eq_true rfl) ?_
                  refine xg_istore (pc := 153) (ls' := [some (.ref 0), some (.int (nI tn)), some (.int w), some (.int v), some (.ref (3 + 16 * 0 + tn)), some (.int (-1000000001))]) dX6_set_153 (by decide) rfl ?_
                  refine xg_iload (pc := 155) dX6_set_155 rfl ?_
                  exact xg_iret (pc := 157) dX6_set_157 rfl (cqR (j := (some 0)) (by unfold sp_set; refine (if_neg (by first | exact (fun q => hn q.2) | exact (fun q => c_5 q.1) | exact ⟨c_5, Or.inl ⟨c_28, c_35⟩⟩ | exact ⟨c_5, Or.inr (Or.inl ⟨c_56, c_66⟩)⟩ | exact ⟨c_5, Or.inr (Or.inr (Or.inl ⟨c_87, c_97⟩))⟩ | exact ⟨c_5, Or.inr (Or.inr (Or.inr ⟨c_118, c_128⟩))⟩)).trans ?_; first | (with_reducible rfl) | (simp only [*, ix_0, ix_1, ix_2, ix_3, ix_4]; done) | (simp [*, ix_0, ix_1, ix_2, ix_3, ix_4]; done) | rfl | (simp_all [ix_0, ix_1, ix_2, ix_3, ix_4]; done)))
                ·
                  refine xg_aload (pc := 131) dX6_set_131 rfl ?_
                  refine xg_get (pc := 133) dX6_set_133 flX6_120 (hp_thing0  (by omega)) rfl ?_
                  refine xg_istore (pc := 136) (ls' := [some (.ref 0), some (.int (nI tn)), some (.int w), some (.int v), some (.ref (3 + 16 * 0 + tn)), some (.int (f0 (5 + 5 * tn + 4)))]) dX6_set_136 (by decide) rfl ?_
                  refine xg_aload (pc := 138) dX6_set_138 rfl ?_
                  refine xg_iload_n (pc := 140) dX6_set_140 rfl ?_
                  refine xg_puti (pc := 141) (h' := hp (tri (upd f0 (5 + 5 * tn + 4) v) f1 f2) o mf wf q) dX6_set_141 flX6_120 (hp_thing0  (by omega)) (Nat.le_of_ble_eq_true rfl) (hs_t0  (c := 4) (by omega) (by decide)) ?_
                  refine xg_goto (pc := 144) (tgt := 155) dX6_set_144 (by decide) ?_
                  refine xg_iload (pc := 155) dX6_set_155 rfl ?_
                  exact xg_iret (pc := 157) dX6_set_157 rfl (cqR (j := none) (by unfold sp_set; refine (if_pos (by first | exact (fun q => hn q.2) | exact (fun q => c_5 q.1) | exact ⟨c_5, Or.inl ⟨c_28, c_35⟩⟩ | exact ⟨c_5, Or.inr (Or.inl ⟨c_56, c_66⟩)⟩ | exact ⟨c_5, Or.inr (Or.inr (Or.inl ⟨c_87, c_97⟩))⟩ | exact ⟨c_5, Or.inr (Or.inr (Or.inr ⟨c_118, c_128⟩))⟩)).trans ?_; first | (with_reducible rfl) | (simp only [*, ix_0, ix_1, ix_2, ix_3, ix_4]; done) | (simp [*, ix_0, ix_1, ix_2, ix_3, ix_4]; done) | rfl | (simp_all [ix_0, ix_1, ix_2, ix_3, ix_4]; done)))
            ·
              refine xg_aload (pc := 100) dX6_set_100 rfl ?_
              refine xg_get (pc := 102) dX6_set_102 flX6_117 (hp_thing0  (by omega)) rfl ?_
              refine xg_istore (pc := 105) (ls' := [some (.ref 0), some (.int (nI tn)), some (.int w), some (.int v), some (.ref (3 + 16 * 0 + tn)), some (.int (f0 (5 + 5 * tn + 3)))]) dX6_set_105 (by decide) rfl ?_
              refine xg_aload (pc := 107) dX6_set_107 rfl ?_
              refine xg_iload_n (pc := 109) dX6_set_109 rfl ?_
              refine xg_puti (pc := 110) (h' := hp (tri (upd f0 (5 + 5 * tn + 3) v) f1 f2) o mf wf q) dX6_set_110 flX6_117 (hp_thing0  (by omega)) (Nat.le_of_ble_eq_true rfl) (hs_t0  (c := 3) (by omega) (by decide)) ?_
              refine xg_goto (pc := 113) (tgt := 155) dX6_set_113 (by decide) ?_
              refine xg_iload (pc := 155) dX6_set_155 rfl ?_
              exact xg_iret (pc := 157) dX6_set_157 rfl (cqR (j := none) (by unfold sp_set; refine (if_pos (by first | exact (fun q => hn q.2) | exact (fun q => c_5 q.1) | exact ⟨c_5, Or.inl ⟨c_28, c_35⟩⟩ | exact ⟨c_5, Or.inr (Or.inl ⟨c_56, c_66⟩)⟩ | exact ⟨c_5, Or.inr (Or.inr (Or.inl ⟨c_87, c_97⟩))⟩ | exact ⟨c_5, Or.inr (Or.inr (Or.inr ⟨c_118, c_128⟩))⟩)).trans ?_; first | (with_reducible rfl) | (simp only [*, ix_0, ix_1, ix_2, ix_3, ix_4]; done) | (simp [*, ix_0, ix_1, ix_2, ix_3, ix_4]; done) | rfl | (simp_all [ix_0, ix_1, ix_2, ix_3, ix_4]; done)))
        ·
          refine xg_aload (pc := 69) dX6_set_69 rfl ?_
          refine xg_get (pc := 71) dX6_set_71 flX6_114 (hp_thing0  (by omega)) rfl ?_
          refine xg_istore (pc := 74) (ls' := [some (.ref 0), some (.int (nI tn)), some (.int w), some (.int v), some (.ref (3 + 16 * 0 + tn)), some (.int (f0 (5 + 5 * tn + 2)))]) dX6_set_74 (by decide) rfl ?_
          refine xg_aload (pc := 76) dX6_set_76 rfl ?_
          refine xg_iload_n (pc := 78) dX6_set_78 rfl ?_
          refine xg_puti (pc := 79) (h' := hp (tri (upd f0 (5 + 5 * tn + 2) v) f1 f2) o mf wf q) dX6_set_79 flX6_114 (hp_thing0  (by omega)) (Nat.le_of_ble_eq_true rfl) (hs_t0  (c := 2) (by omega) (by decide)) ?_
          refine xg_goto (pc := 82) (tgt := 155) dX6_set_82 (by decide) ?_
          refine xg_iload (pc := 155) dX6_set_155 rfl ?_
          exact xg_iret (pc := 157) dX6_set_157 rfl (cqR (j := none) (by unfold sp_set; refine (if_pos (by first | exact (fun q => hn q.2) | exact (fun q => c_5 q.1) | exact ⟨c_5, Or.inl ⟨c_28, c_35⟩⟩ | exact ⟨c_5, Or.inr (Or.inl ⟨c_56, c_66⟩)⟩ | exact ⟨c_5, Or.inr (Or.inr (Or.inl ⟨c_87, c_97⟩))⟩ | exact ⟨c_5, Or.inr (Or.inr (Or.inr ⟨c_118, c_128⟩))⟩)).trans ?_; first | (with_reducible rfl) | (simp only [*, ix_0, ix_1, ix_2, ix_3, ix_4]; done) | (simp [*, ix_0, ix_1, ix_2, ix_3, ix_4]; done) | rfl | (simp_all [ix_0, ix_1, ix_2, ix_3, ix_4]; done)))
    ·
      refine xg_iload_n (pc := 31) dX6_set_31 rfl ?_
      refine xg_csI (pc := 32) (h1 := hp (tri f0 f1 f2) o mf wf q) (x := if 0 ≤ v ∧ v ≤ 7 then 1 else 0) (M' := mX6_isColumn) dX6_set_32 lkX6_88 mcX6_isColumn (ev_X6_isColumn) rfl rfl (Nat.le_of_ble_eq_true rfl) ?_
      refine xg_bz (pc := 35) (tgt := 54) dX6_set_35 (by decide) (fun c_35 => ?_) (fun c_35 => ?_)
      ·
        have n1 : ¬ (w = 1 ∧ 0 ≤ v ∧ v ≤ 7) := by first | exact (fun q => c_28 q.1) | exact (fun q => c_35 q.2)
        refine xg_iload_n (pc := 54) dX6_set_54 rfl ?_
        refine xg_iconst (v := 2) (pc := 55) dX6_set_55 (by decide) ?_
        refine xg_icmp_ne (pc := 56) (tgt := 85) dX6_set_56 (by decide) (fun c_56 => ?_) (fun c_56 => ?_)
        ·
          have n2 : ¬ (w = 2 ∧ 1 ≤ v ∧ v ≤ 6) := by first | exact (fun q => c_56 q.1) | exact (fun q => c_66 q.2)
          refine xg_iload_n (pc := 85) dX6_set_85 rfl ?_
          refine xg_iconst (v := 3) (pc := 86) dX6_set_86 (by decide) ?_
          refine xg_icmp_ne (pc := 87) (tgt := 116) dX6_set_87 (by decide) (fun c_87 => ?_) (fun c_87 => ?_)
          ·
            have n3 : ¬ (w = 3 ∧ 0 ≤ v ∧ v ≤ 99) := by first | exact (fun q => c_87 q.1) | exact (fun q => c_97 q.2)
            refine xg_iload_n (pc := 116) dX6_set_116 rfl ?_
            refine xg_iconst (v := 4) (pc := 117) dX6_set_117 (by decide) ?_
            refine xg_icmp_ne (pc := 118) (tgt := 147) dX6_set_118 (by decide) (fun c_118 => ?_) (fun c_118 => ?_)
            ·
              have n4 : ¬ (w = 4 ∧ 0 ≤ v ∧ v ≤ 9) := by first | exact (fun q => c_118 q.1) | exact (fun q => c_128 q.2)
              have hn : ¬ may w v := fun q => q.elim n1 (fun q => q.elim n2 (fun q => q.elim n3 n4))
              refine xg_aload_n (pc := 147) dX6_set_147 rfl ?_
              refine xg_ldc (v := -1000000001) (pc := 148) dX6_set_148 ccX6_64 ?_
              refine xg_cvI (pc := 150) (h1 := hp (tri f0 f1 f2) (o.1, upd o.2.1 0 (o.2.1 0 + 1), o.2.2.1, o.2.2.2.1, o.2.2.2.2.1, o.2.2.2.2.2.1, o.2.2.2.2.2.2.1, o.2.2.2.2.2.2.2.1, o.2.2.2.2.2.2.2.2.1, o.2.2.2.2.2.2.2.2.2.1, o.2.2.2.2.2.2.2.2.2.2) mf wf q) (x := -1000000001) (M' := mX6_finding) dX6_set_150 lkX6_65 mcX6_finding hp_0 rfl (ev_X6_finding (j := 0) (by decide) (by decide)) rfl rfl (Nat.le_of_ble_eq_true rfl) ?_
              refine xg_istore (pc := 153) (ls' := [some (.ref 0), some (.int (nI tn)), some (.int w), some (.int v), some (.ref (3 + 16 * 0 + tn)), some (.int (-1000000001))]) dX6_set_153 (by decide) rfl ?_
              refine xg_iload (pc := 155) dX6_set_155 rfl ?_
              exact xg_iret (pc := 157) dX6_set_157 rfl (cqR (j := (some 0)) (by unfold sp_set; refine (if_neg (by first | exact (fun q => hn q.2) | exact (fun q => c_5 q.1) | exact ⟨c_5, Or.inl ⟨c_28, c_35⟩⟩ | exact ⟨c_5, Or.inr (Or.inl ⟨c_56, c_66⟩)⟩ | exact ⟨c_5, Or.inr (Or.inr (Or.inl ⟨c_87, c_97⟩))⟩ | exact ⟨c_5, Or.inr (Or.inr (Or.inr ⟨c_118, c_128⟩))⟩)).trans ?_; first | (with_reducible rfl) | (simp only [*, ix_0, ix_1, ix_2, ix_3, ix_4]; done) | (simp [*, ix_0, ix_1, ix_2, ix_3, ix_4]; done) | rfl | (simp_all [ix_0, ix_1, ix_2, ix_3, ix_4]; done)))
            ·
              refine xg_iload_n (pc := 121) dX6_set_121 rfl ?_
              refine xg_iconst (v := 0) (pc := 122) dX6_set_122 (by decide) ?_
              refine xg_bipush (v := 9) (pc := 123) dX6_set_123 (by decide) ?_
              refine xg_csI (pc := 125) (h1 := hp (tri f0 f1 f2) o mf wf q) (x := if 0 ≤ v ∧ v ≤ 9 then 1 else 0) (M' := mX6_isWithin) dX6_set_125 lkX6_53 mcX6_isWithin (ev_X6_isWithin) rfl rfl (Nat.le_of_ble_eq_true rfl) ?_
              refine xg_bz (pc := 128) (tgt := 147) dX6_set_128 (by decide) (fun c_128 => ?_) (fun c_128 => ?_)
              ·
                have n4 : ¬ (w = 4 ∧ 0 ≤ v ∧ v ≤ 9) := by first | exact (fun q => c_118 q.1) | exact (fun q => c_128 q.2)
                have hn : ¬ may w v := fun q => q.elim n1 (fun q => q.elim n2 (fun q => q.elim n3 n4))
                refine xg_aload_n (pc := 147) dX6_set_147 rfl ?_
                refine xg_ldc (v := -1000000001) (pc := 148) dX6_set_148 ccX6_64 ?_
                refine xg_cvI (pc := 150) (h1 := hp (tri f0 f1 f2) (o.1, upd o.2.1 0 (o.2.1 0 + 1), o.2.2.1, o.2.2.2.1, o.2.2.2.2.1, o.2.2.2.2.2.1, o.2.2.2.2.2.2.1, o.2.2.2.2.2.2.2.1, o.2.2.2.2.2.2.2.2.1, o.2.2.2.2.2.2.2.2.2.1, o.2.2.2.2.2.2.2.2.2.2) mf wf q) (x := -1000000001) (M' := mX6_finding) dX6_set_150 lkX6_65 mcX6_finding hp_0 rfl (ev_X6_finding (j := 0) (by decide) (by decide)) rfl rfl (Nat.le_of_ble_eq_true rfl) ?_
                refine xg_istore (pc := 153) (ls' := [some (.ref 0), some (.int (nI tn)), some (.int w), some (.int v), some (.ref (3 + 16 * 0 + tn)), some (.int (-1000000001))]) dX6_set_153 (by decide) rfl ?_
                refine xg_iload (pc := 155) dX6_set_155 rfl ?_
                exact xg_iret (pc := 157) dX6_set_157 rfl (cqR (j := (some 0)) (by unfold sp_set; refine (if_neg (by first | exact (fun q => hn q.2) | exact (fun q => c_5 q.1) | exact ⟨c_5, Or.inl ⟨c_28, c_35⟩⟩ | exact ⟨c_5, Or.inr (Or.inl ⟨c_56, c_66⟩)⟩ | exact ⟨c_5, Or.inr (Or.inr (Or.inl ⟨c_87, c_97⟩))⟩ | exact ⟨c_5, Or.inr (Or.inr (Or.inr ⟨c_118, c_128⟩))⟩)).trans ?_; first | (with_reducible rfl) | (simp only [*, ix_0, ix_1, ix_2, ix_3, ix_4]; done) | (simp [*, ix_0, ix_1, ix_2, ix_3, ix_4]; done) | rfl | (simp_all [ix_0, ix_1, ix_2, ix_3, ix_4]; done)))
              ·
                refine xg_aload (pc := 131) dX6_set_131 rfl ?_
                refine xg_get (pc := 133) dX6_set_133 flX6_120 (hp_thing0  (by omega)) rfl ?_
                refine xg_istore (pc := 136) (ls' := [some (.ref 0), some (.int (nI tn)), some (.int w), some (.int v), some (.ref (3 + 16 * 0 + tn)), some (.int (f0 (5 + 5 * tn + 4)))]) dX6_set_136 (by decide) rfl ?_
                refine xg_aload (pc := 138) dX6_set_138 rfl ?_
                refine xg_iload_n (pc := 140) dX6_set_140 rfl ?_
                refine xg_puti (pc := 141) (h' := hp (tri (upd f0 (5 + 5 * tn + 4) v) f1 f2) o mf wf q) dX6_set_141 flX6_120 (hp_thing0  (by omega)) (Nat.le_of_ble_eq_true rfl) (hs_t0  (c := 4) (by omega) (by decide)) ?_
                refine xg_goto (pc := 144) (tgt := 155) dX6_set_144 (by decide) ?_
                refine xg_iload (pc := 155) dX6_set_155 rfl ?_
                exact xg_iret (pc := 157) dX6_set_157 rfl (cqR (j := none) (by unfold sp_set; refine (if_pos (by first | exact (fun q => hn q.2) | exact (fun q => c_5 q.1) | exact ⟨c_5, Or.inl ⟨c_28, c_35⟩⟩ | exact ⟨c_5, Or.inr (Or.inl ⟨c_56, c_66⟩)⟩ | exact ⟨c_5, Or.inr (Or.inr (Or.inl ⟨c_87, c_97⟩))⟩ | exact ⟨c_5, Or.inr (Or.inr (Or.inr ⟨c_118, c_128⟩))⟩)).trans ?_; first | (with_reducible rfl) | (simp only [*, ix_0, ix_1, ix_2, ix_3, ix_4]; done) | (simp [*, ix_0, ix_1, ix_2, ix_3, ix_4]; done) | rfl | (simp_all [ix_0, ix_1, ix_2, ix_3, ix_4]; done)))
          ·
            refine xg_iload_n (pc := 90) dX6_set_90 rfl ?_
            refine xg_iconst (v := 0) (pc := 91) dX6_set_91 (by decide) ?_
            refine xg_bipush (v := 99) (pc := 92) dX6_set_92 (by decide) ?_
            refine xg_csI (pc := 94) (h1 := hp (tri f0 f1 f2) o mf wf q) (x := if 0 ≤ v ∧ v ≤ 99 then 1 else 0) (M' := mX6_isWithin) dX6_set_94 lkX6_53 mcX6_isWithin (ev_X6_isWithin) rfl rfl (Nat.le_of_ble_eq_true rfl) ?_
            refine xg_bz (pc := 97) (tgt := 116) dX6_set_97 (by decide) (fun c_97 => ?_) (fun c_97 => ?_)
            ·
              have n3 : ¬ (w = 3 ∧ 0 ≤ v ∧ v ≤ 99) := by first | exact (fun q => c_87 q.1) | exact (fun q => c_97 q.2)
              refine xg_iload_n (pc := 116) dX6_set_116 rfl ?_
              refine xg_iconst (v := 4) (pc := 117) dX6_set_117 (by decide) ?_
              refine xg_icmp_ne (pc := 118) (tgt := 147) dX6_set_118 (by decide) (fun c_118 => ?_) (fun c_118 => ?_)
              ·
                have n4 : ¬ (w = 4 ∧ 0 ≤ v ∧ v ≤ 9) := by first | exact (fun q => c_118 q.1) | exact (fun q => c_128 q.2)
                have hn : ¬ may w v := fun q => q.elim n1 (fun q => q.elim n2 (fun q => q.elim n3 n4))
                refine xg_aload_n (pc := 147) dX6_set_147 rfl ?_
                refine xg_ldc (v := -1000000001) (pc := 148) dX6_set_148 ccX6_64 ?_
                refine xg_cvI (pc := 150) (h1 := hp (tri f0 f1 f2) (o.1, upd o.2.1 0 (o.2.1 0 + 1), o.2.2.1, o.2.2.2.1, o.2.2.2.2.1, o.2.2.2.2.2.1, o.2.2.2.2.2.2.1, o.2.2.2.2.2.2.2.1, o.2.2.2.2.2.2.2.2.1, o.2.2.2.2.2.2.2.2.2.1, o.2.2.2.2.2.2.2.2.2.2) mf wf q) (x := -1000000001) (M' := mX6_finding) dX6_set_150 lkX6_65 mcX6_finding hp_0 rfl (ev_X6_finding (j := 0) (by decide) (by decide)) rfl rfl (Nat.le_of_ble_eq_true rfl) ?_
                refine xg_istore (pc := 153) (ls' := [some (.ref 0), some (.int (nI tn)), some (.int w), some (.int v), some (.ref (3 + 16 * 0 + tn)), some (.int (-1000000001))]) dX6_set_153 (by decide) rfl ?_
                refine xg_iload (pc := 155) dX6_set_155 rfl ?_
                exact xg_iret (pc := 157) dX6_set_157 rfl (cqR (j := (some 0)) (by unfold sp_set; refine (if_neg (by first | exact (fun q => hn q.2) | exact (fun q => c_5 q.1) | exact ⟨c_5, Or.inl ⟨c_28, c_35⟩⟩ | exact ⟨c_5, Or.inr (Or.inl ⟨c_56, c_66⟩)⟩ | exact ⟨c_5, Or.inr (Or.inr (Or.inl ⟨c_87, c_97⟩))⟩ | exact ⟨c_5, Or.inr (Or.inr (Or.inr ⟨c_118, c_128⟩))⟩)).trans ?_; first | (with_reducible rfl) | (simp only [*, ix_0, ix_1, ix_2, ix_3, ix_4]; done) | (simp [*, ix_0, ix_1, ix_2, ix_3, ix_4]; done) | rfl | (simp_all [ix_0, ix_1, ix_2, ix_3, ix_4]; done)))
              ·
                refine xg_iload_n (pc := 121) dX6_set_121 rfl ?_
                refine xg_iconst (v := 0) (pc := 122) dX6_set_122 (by decide) ?_
                refine xg_bipush (v := 9) (pc := 123) dX6_set_123 (by decide) ?_
                refine xg_csI (pc := 125) (h1 := hp (tri f0 f1 f2) o mf wf q) (x := if 0 ≤ v ∧ v ≤ 9 then 1 else 0) (M' := mX6_isWithin) dX6_set_125 lkX6_53 mcX6_isWithin (ev_X6_isWithin) rfl rfl (Nat.le_of_ble_eq_true rfl) ?_
                refine xg_bz (pc := 128) (tgt := 147) dX6_set_128 (by decide) (fun c_128 => ?_) (fun c_128 => ?_)
                ·
                  have n4 : ¬ (w = 4 ∧ 0 ≤ v ∧ v ≤ 9) := by first | exact (fun q => c_118 q.1) | exact (fun q => c_128 q.2)
                  have hn : ¬ may w v := fun q => q.elim n1 (fun q => q.elim n2 (fun q => q.elim n3 n4))
                  refine xg_aload_n (pc := 147) dX6_set_147 rfl ?_
                  refine xg_ldc (v := -1000000001) (pc := 148) dX6_set_148 ccX6_64 ?_
                  refine xg_cvI (pc := 150) (h1 := hp (tri f0 f1 f2) (o.1, upd o.2.1 0 (o.2.1 0 + 1), o.2.2.1, o.2.2.2.1, o.2.2.2.2.1, o.2.2.2.2.2.1, o.2.2.2.2.2.2.1, o.2.2.2.2.2.2.2.1, o.2.2.2.2.2.2.2.2.1, o.2.2.2.2.2.2.2.2.2.1, o.2.2.2.2.2.2.2.2.2.2) mf wf q) (x := -1000000001) (M' := mX6_finding) dX6_set_150 lkX6_65 mcX6_finding hp_0 rfl (ev_X6_finding (j := 0) (by decide) (by decide)) rfl rfl (Nat.le_of_ble_eq_true rfl) ?_
                  refine xg_istore (pc := 153) (ls' := [some (.ref 0), some (.int (nI tn)), some (.int w), some (.int v), some (.ref (3 + 16 * 0 + tn)), some (.int (-1000000001))]) dX6_set_153 (by decide) rfl ?_
                  refine xg_iload (pc := 155) dX6_set_155 rfl ?_
                  exact xg_iret (pc := 157) dX6_set_157 rfl (cqR (j := (some 0)) (by unfold sp_set; refine (if_neg (by first | exact (fun q => hn q.2) | exact (fun q => c_5 q.1) | exact ⟨c_5, Or.inl ⟨c_28, c_35⟩⟩ | exact ⟨c_5, Or.inr (Or.inl ⟨c_56, c_66⟩)⟩ | exact ⟨c_5, Or.inr (Or.inr (Or.inl ⟨c_87, c_97⟩))⟩ | exact ⟨c_5, Or.inr (Or.inr (Or.inr ⟨c_118, c_128⟩))⟩)).trans ?_; first | (with_reducible rfl) | (simp only [*, ix_0, ix_1, ix_2, ix_3, ix_4]; done) | (simp [*, ix_0, ix_1, ix_2, ix_3, ix_4]; done) | rfl | (simp_all [ix_0, ix_1, ix_2, ix_3, ix_4]; done)))
                ·
                  refine xg_aload (pc := 131) dX6_set_131 rfl ?_
                  refine xg_get (pc := 133) dX6_set_133 flX6_120 (hp_thing0  (by omega)) rfl ?_
                  refine xg_istore (pc := 136) (ls' := [some (.ref 0), some (.int (nI tn)), some (.int w), some (.int v), some (.ref (3 + 16 * 0 + tn)), some (.int (f0 (5 + 5 * tn + 4)))]) dX6_set_136 (by decide) rfl ?_
                  refine xg_aload (pc := 138) dX6_set_138 rfl ?_
                  refine xg_iload_n (pc := 140) dX6_set_140 rfl ?_
                  refine xg_puti (pc := 141) (h' := hp (tri (upd f0 (5 + 5 * tn + 4) v) f1 f2) o mf wf q) dX6_set_141 flX6_120 (hp_thing0  (by omega)) (Nat.le_of_ble_eq_true rfl) (hs_t0  (c := 4) (by omega) (by decide)) ?_
                  refine xg_goto (pc := 144) (tgt := 155) dX6_set_144 (by decide) ?_
                  refine xg_iload (pc := 155) dX6_set_155 rfl ?_
                  exact xg_iret (pc := 157) dX6_set_157 rfl (cqR (j := none) (by unfold sp_set; refine (if_pos (by first | exact (fun q => hn q.2) | exact (fun q => c_5 q.1) | exact ⟨c_5, Or.inl ⟨c_28, c_35⟩⟩ | exact ⟨c_5, Or.inr (Or.inl ⟨c_56, c_66⟩)⟩ | exact ⟨c_5, Or.inr (Or.inr (Or.inl ⟨c_87, c_97⟩))⟩ | exact ⟨c_5, Or.inr (Or.inr (Or.inr ⟨c_118, c_128⟩))⟩)).trans ?_; first | (with_reducible rfl) | (simp only [*, ix_0, ix_1, ix_2, ix_3, ix_4]; done) | (simp [*, ix_0, ix_1, ix_2, ix_3, ix_4]; done) | rfl | (simp_all [ix_0, ix_1, ix_2, ix_3, ix_4]; done)))
            ·
              refine xg_aload (pc := 100) dX6_set_100 rfl ?_
              refine xg_get (pc := 102) dX6_set_102 flX6_117 (hp_thing0  (by omega)) rfl ?_
              refine xg_istore (pc := 105) (ls' := [some (.ref 0), some (.int (nI tn)), some (.int w), some (.int v), some (.ref (3 + 16 * 0 + tn)), some (.int (f0 (5 + 5 * tn + 3)))]) dX6_set_105 (by decide) rfl ?_
              refine xg_aload (pc := 107) dX6_set_107 rfl ?_
              refine xg_iload_n (pc := 109) dX6_set_109 rfl ?_
              refine xg_puti (pc := 110) (h' := hp (tri (upd f0 (5 + 5 * tn + 3) v) f1 f2) o mf wf q) dX6_set_110 flX6_117 (hp_thing0  (by omega)) (Nat.le_of_ble_eq_true rfl) (hs_t0  (c := 3) (by omega) (by decide)) ?_
              refine xg_goto (pc := 113) (tgt := 155) dX6_set_113 (by decide) ?_
              refine xg_iload (pc := 155) dX6_set_155 rfl ?_
              exact xg_iret (pc := 157) dX6_set_157 rfl (cqR (j := none) (by unfold sp_set; refine (if_pos (by first | exact (fun q => hn q.2) | exact (fun q => c_5 q.1) | exact ⟨c_5, Or.inl ⟨c_28, c_35⟩⟩ | exact ⟨c_5, Or.inr (Or.inl ⟨c_56, c_66⟩)⟩ | exact ⟨c_5, Or.inr (Or.inr (Or.inl ⟨c_87, c_97⟩))⟩ | exact ⟨c_5, Or.inr (Or.inr (Or.inr ⟨c_118, c_128⟩))⟩)).trans ?_; first | (with_reducible rfl) | (simp only [*, ix_0, ix_1, ix_2, ix_3, ix_4]; done) | (simp [*, ix_0, ix_1, ix_2, ix_3, ix_4]; done) | rfl | (simp_all [ix_0, ix_1, ix_2, ix_3, ix_4]; done)))
        ·
          refine xg_iload_n (pc := 59) dX6_set_59 rfl ?_
          refine xg_iconst (v := 1) (pc := 60) dX6_set_60 (by decide) ?_
          refine xg_bipush (v := 6) (pc := 61) dX6_set_61 (by decide) ?_
          refine xg_csI (pc := 63) (h1 := hp (tri f0 f1 f2) o mf wf q) (x := if 1 ≤ v ∧ v ≤ 6 then 1 else 0) (M' := mX6_isWithin) dX6_set_63 lkX6_53 mcX6_isWithin (ev_X6_isWithin) rfl rfl (Nat.le_of_ble_eq_true rfl) ?_
          refine xg_bz (pc := 66) (tgt := 85) dX6_set_66 (by decide) (fun c_66 => ?_) (fun c_66 => ?_)
          ·
            have n2 : ¬ (w = 2 ∧ 1 ≤ v ∧ v ≤ 6) := by first | exact (fun q => c_56 q.1) | exact (fun q => c_66 q.2)
            refine xg_iload_n (pc := 85) dX6_set_85 rfl ?_
            refine xg_iconst (v := 3) (pc := 86) dX6_set_86 (by decide) ?_
            refine xg_icmp_ne (pc := 87) (tgt := 116) dX6_set_87 (by decide) (fun c_87 => ?_) (fun c_87 => ?_)
            ·
              have n3 : ¬ (w = 3 ∧ 0 ≤ v ∧ v ≤ 99) := by first | exact (fun q => c_87 q.1) | exact (fun q => c_97 q.2)
              refine xg_iload_n (pc := 116) dX6_set_116 rfl ?_
              refine xg_iconst (v := 4) (pc := 117) dX6_set_117 (by decide) ?_
              refine xg_icmp_ne (pc := 118) (tgt := 147) dX6_set_118 (by decide) (fun c_118 => ?_) (fun c_118 => ?_)
              ·
                have n4 : ¬ (w = 4 ∧ 0 ≤ v ∧ v ≤ 9) := by first | exact (fun q => c_118 q.1) | exact (fun q => c_128 q.2)
                have hn : ¬ may w v := fun q => q.elim n1 (fun q => q.elim n2 (fun q => q.elim n3 n4))
                refine xg_aload_n (pc := 147) dX6_set_147 rfl ?_
                refine xg_ldc (v := -1000000001) (pc := 148) dX6_set_148 ccX6_64 ?_
                refine xg_cvI (pc := 150) (h1 := hp (tri f0 f1 f2) (o.1, upd o.2.1 0 (o.2.1 0 + 1), o.2.2.1, o.2.2.2.1, o.2.2.2.2.1, o.2.2.2.2.2.1, o.2.2.2.2.2.2.1, o.2.2.2.2.2.2.2.1, o.2.2.2.2.2.2.2.2.1, o.2.2.2.2.2.2.2.2.2.1, o.2.2.2.2.2.2.2.2.2.2) mf wf q) (x := -1000000001) (M' := mX6_finding) dX6_set_150 lkX6_65 mcX6_finding hp_0 rfl (ev_X6_finding (j := 0) (by decide) (by decide)) rfl rfl (Nat.le_of_ble_eq_true rfl) ?_
                refine xg_istore (pc := 153) (ls' := [some (.ref 0), some (.int (nI tn)), some (.int w), some (.int v), some (.ref (3 + 16 * 0 + tn)), some (.int (-1000000001))]) dX6_set_153 (by decide) rfl ?_
                refine xg_iload (pc := 155) dX6_set_155 rfl ?_
                exact xg_iret (pc := 157) dX6_set_157 rfl (cqR (j := (some 0)) (by unfold sp_set; refine (if_neg (by first | exact (fun q => hn q.2) | exact (fun q => c_5 q.1) | exact ⟨c_5, Or.inl ⟨c_28, c_35⟩⟩ | exact ⟨c_5, Or.inr (Or.inl ⟨c_56, c_66⟩)⟩ | exact ⟨c_5, Or.inr (Or.inr (Or.inl ⟨c_87, c_97⟩))⟩ | exact ⟨c_5, Or.inr (Or.inr (Or.inr ⟨c_118, c_128⟩))⟩)).trans ?_; first | (with_reducible rfl) | (simp only [*, ix_0, ix_1, ix_2, ix_3, ix_4]; done) | (simp [*, ix_0, ix_1, ix_2, ix_3, ix_4]; done) | rfl | (simp_all [ix_0, ix_1, ix_2, ix_3, ix_4]; done)))
              ·
                refine xg_iload_n (pc := 121) dX6_set_121 rfl ?_
                refine xg_iconst (v := 0) (pc := 122) dX6_set_122 (by decide) ?_
                refine xg_bipush (v := 9) (pc := 123) dX6_set_123 (by decide) ?_
                refine xg_csI (pc := 125) (h1 := hp (tri f0 f1 f2) o mf wf q) (x := if 0 ≤ v ∧ v ≤ 9 then 1 else 0) (M' := mX6_isWithin) dX6_set_125 lkX6_53 mcX6_isWithin (ev_X6_isWithin) rfl rfl (Nat.le_of_ble_eq_true rfl) ?_
                refine xg_bz (pc := 128) (tgt := 147) dX6_set_128 (by decide) (fun c_128 => ?_) (fun c_128 => ?_)
                ·
                  have n4 : ¬ (w = 4 ∧ 0 ≤ v ∧ v ≤ 9) := by first | exact (fun q => c_118 q.1) | exact (fun q => c_128 q.2)
                  have hn : ¬ may w v := fun q => q.elim n1 (fun q => q.elim n2 (fun q => q.elim n3 n4))
                  refine xg_aload_n (pc := 147) dX6_set_147 rfl ?_
                  refine xg_ldc (v := -1000000001) (pc := 148) dX6_set_148 ccX6_64 ?_
                  refine xg_cvI (pc := 150) (h1 := hp (tri f0 f1 f2) (o.1, upd o.2.1 0 (o.2.1 0 + 1), o.2.2.1, o.2.2.2.1, o.2.2.2.2.1, o.2.2.2.2.2.1, o.2.2.2.2.2.2.1, o.2.2.2.2.2.2.2.1, o.2.2.2.2.2.2.2.2.1, o.2.2.2.2.2.2.2.2.2.1, o.2.2.2.2.2.2.2.2.2.2) mf wf q) (x := -1000000001) (M' := mX6_finding) dX6_set_150 lkX6_65 mcX6_finding hp_0 rfl (ev_X6_finding (j := 0) (by decide) (by decide)) rfl rfl (Nat.le_of_ble_eq_true rfl) ?_
                  refine xg_istore (pc := 153) (ls' := [some (.ref 0), some (.int (nI tn)), some (.int w), some (.int v), some (.ref (3 + 16 * 0 + tn)), some (.int (-1000000001))]) dX6_set_153 (by decide) rfl ?_
                  refine xg_iload (pc := 155) dX6_set_155 rfl ?_
                  exact xg_iret (pc := 157) dX6_set_157 rfl (cqR (j := (some 0)) (by unfold sp_set; refine (if_neg (by first | exact (fun q => hn q.2) | exact (fun q => c_5 q.1) | exact ⟨c_5, Or.inl ⟨c_28, c_35⟩⟩ | exact ⟨c_5, Or.inr (Or.inl ⟨c_56, c_66⟩)⟩ | exact ⟨c_5, Or.inr (Or.inr (Or.inl ⟨c_87, c_97⟩))⟩ | exact ⟨c_5, Or.inr (Or.inr (Or.inr ⟨c_118, c_128⟩))⟩)).trans ?_; first | (with_reducible rfl) | (simp only [*, ix_0, ix_1, ix_2, ix_3, ix_4]; done) | (simp [*, ix_0, ix_1, ix_2, ix_3, ix_4]; done) | rfl | (simp_all [ix_0, ix_1, ix_2, ix_3, ix_4]; done)))
                ·
                  refine xg_aload (pc := 131) dX6_set_131 rfl ?_
                  refine xg_get (pc := 133) dX6_set_133 flX6_120 (hp_thing0  (by omega)) rfl ?_
                  refine xg_istore (pc := 136) (ls' := [some (.ref 0), some (.int (nI tn)), some (.int w), some (.int v), some (.ref (3 + 16 * 0 + tn)), some (.int (f0 (5 + 5 * tn + 4)))]) dX6_set_136 (by decide) rfl ?_
                  refine xg_aload (pc := 138) dX6_set_138 rfl ?_
                  refine xg_iload_n (pc := 140) dX6_set_140 rfl ?_
                  refine xg_puti (pc := 141) (h' := hp (tri (upd f0 (5 + 5 * tn + 4) v) f1 f2) o mf wf q) dX6_set_141 flX6_120 (hp_thing0  (by omega)) (Nat.le_of_ble_eq_true rfl) (hs_t0  (c := 4) (by omega) (by decide)) ?_
                  refine xg_goto (pc := 144) (tgt := 155) dX6_set_144 (by decide) ?_
                  refine xg_iload (pc := 155) dX6_set_155 rfl ?_
                  exact xg_iret (pc := 157) dX6_set_157 rfl (cqR (j := none) (by unfold sp_set; refine (if_pos (by first | exact (fun q => hn q.2) | exact (fun q => c_5 q.1) | exact ⟨c_5, Or.inl ⟨c_28, c_35⟩⟩ | exact ⟨c_5, Or.inr (Or.inl ⟨c_56, c_66⟩)⟩ | exact ⟨c_5, Or.inr (Or.inr (Or.inl ⟨c_87, c_97⟩))⟩ | exact ⟨c_5, Or.inr (Or.inr (Or.inr ⟨c_118, c_128⟩))⟩)).trans ?_; first | (with_reducible rfl) | (simp only [*, ix_0, ix_1, ix_2, ix_3, ix_4]; done) | (simp [*, ix_0, ix_1, ix_2, ix_3, ix_4]; done) | rfl | (simp_all [ix_0, ix_1, ix_2, ix_3, ix_4]; done)))
            ·
              refine xg_iload_n (pc := 90) dX6_set_90 rfl ?_
              refine xg_iconst (v := 0) (pc := 91) dX6_set_91 (by decide) ?_
              refine xg_bipush (v := 99) (pc := 92) dX6_set_92 (by decide) ?_
              refine xg_csI (pc := 94) (h1 := hp (tri f0 f1 f2) o mf wf q) (x := if 0 ≤ v ∧ v ≤ 99 then 1 else 0) (M' := mX6_isWithin) dX6_set_94 lkX6_53 mcX6_isWithin (ev_X6_isWithin) rfl rfl (Nat.le_of_ble_eq_true rfl) ?_
              refine xg_bz (pc := 97) (tgt := 116) dX6_set_97 (by decide) (fun c_97 => ?_) (fun c_97 => ?_)
              ·
                have n3 : ¬ (w = 3 ∧ 0 ≤ v ∧ v ≤ 99) := by first | exact (fun q => c_87 q.1) | exact (fun q => c_97 q.2)
                refine xg_iload_n (pc := 116) dX6_set_116 rfl ?_
                refine xg_iconst (v := 4) (pc := 117) dX6_set_117 (by decide) ?_
                refine xg_icmp_ne (pc := 118) (tgt := 147) dX6_set_118 (by decide) (fun c_118 => ?_) (fun c_118 => ?_)
                ·
                  have n4 : ¬ (w = 4 ∧ 0 ≤ v ∧ v ≤ 9) := by first | exact (fun q => c_118 q.1) | exact (fun q => c_128 q.2)
                  have hn : ¬ may w v := fun q => q.elim n1 (fun q => q.elim n2 (fun q => q.elim n3 n4))
                  refine xg_aload_n (pc := 147) dX6_set_147 rfl ?_
                  refine xg_ldc (v := -1000000001) (pc := 148) dX6_set_148 ccX6_64 ?_
                  refine xg_cvI (pc := 150) (h1 := hp (tri f0 f1 f2) (o.1, upd o.2.1 0 (o.2.1 0 + 1), o.2.2.1, o.2.2.2.1, o.2.2.2.2.1, o.2.2.2.2.2.1, o.2.2.2.2.2.2.1, o.2.2.2.2.2.2.2.1, o.2.2.2.2.2.2.2.2.1, o.2.2.2.2.2.2.2.2.2.1, o.2.2.2.2.2.2.2.2.2.2) mf wf q) (x := -1000000001) (M' := mX6_finding) dX6_set_150 lkX6_65 mcX6_finding hp_0 rfl (ev_X6_finding (j := 0) (by decide) (by decide)) rfl rfl (Nat.le_of_ble_eq_true rfl) ?_
                  refine xg_istore (pc := 153) (ls' := [some (.ref 0), some (.int (nI tn)), some (.int w), some (.int v), some (.ref (3 + 16 * 0 + tn)), some (.int (-1000000001))]) dX6_set_153 (by decide) rfl ?_
                  refine xg_iload (pc := 155) dX6_set_155 rfl ?_
                  exact xg_iret (pc := 157) dX6_set_157 rfl (cqR (j := (some 0)) (by unfold sp_set; refine (if_neg (by first | exact (fun q => hn q.2) | exact (fun q => c_5 q.1) | exact ⟨c_5, Or.inl ⟨c_28, c_35⟩⟩ | exact ⟨c_5, Or.inr (Or.inl ⟨c_56, c_66⟩)⟩ | exact ⟨c_5, Or.inr (Or.inr (Or.inl ⟨c_87, c_97⟩))⟩ | exact ⟨c_5, Or.inr (Or.inr (Or.inr ⟨c_118, c_128⟩))⟩)).trans ?_; first | (with_reducible rfl) | (simp only [*, ix_0, ix_1, ix_2, ix_3, ix_4]; done) | (simp [*, ix_0, ix_1, ix_2, ix_3, ix_4]; done) | rfl | (simp_all [ix_0, ix_1, ix_2, ix_3, ix_4]; done)))
                ·
                  refine xg_iload_n (pc := 121) dX6_set_121 rfl ?_
                  refine xg_iconst (v := 0) (pc := 122) dX6_set_122 (by decide) ?_
                  refine xg_bipush (v := 9) (pc := 123) dX6_set_123 (by decide) ?_
                  refine xg_csI (pc := 125) (h1 := hp (tri f0 f1 f2) o mf wf q) (x := if 0 ≤ v ∧ v ≤ 9 then 1 else 0) (M' := mX6_isWithin) dX6_set_125 lkX6_53 mcX6_isWithin (ev_X6_isWithin) rfl rfl (Nat.le_of_ble_eq_true rfl) ?_
                  refine xg_bz (pc := 128) (tgt := 147) dX6_set_128 (by decide) (fun c_128 => ?_) (fun c_128 => ?_)
                  ·
                    have n4 : ¬ (w = 4 ∧ 0 ≤ v ∧ v ≤ 9) := by first | exact (fun q => c_118 q.1) | exact (fun q => c_128 q.2)
                    have hn : ¬ may w v := fun q => q.elim n1 (fun q => q.elim n2 (fun q => q.elim n3 n4))
                    refine xg_aload_n (pc := 147) dX6_set_147 rfl ?_
                    refine xg_ldc (v := -1000000001) (pc := 148) dX6_set_148 ccX6_64 ?_
                    refine xg_cvI (pc := 150) (h1 := hp (tri f0 f1 f2) (o.1, upd o.2.1 0 (o.2.1 0 + 1), o.2.2.1, o.2.2.2.1, o.2.2.2.2.1, o.2.2.2.2.2.1, o.2.2.2.2.2.2.1, o.2.2.2.2.2.2.2.1, o.2.2.2.2.2.2.2.2.1, o.2.2.2.2.2.2.2.2.2.1, o.2.2.2.2.2.2.2.2.2.2) mf wf q) (x := -1000000001) (M' := mX6_finding) dX6_set_150 lkX6_65 mcX6_finding hp_0 rfl (ev_X6_finding (j := 0) (by decide) (by decide)) rfl rfl (Nat.le_of_ble_eq_true rfl) ?_
                    refine xg_istore (pc := 153) (ls' := [some (.ref 0), some (.int (nI tn)), some (.int w), some (.int v), some (.ref (3 + 16 * 0 + tn)), some (.int (-1000000001))]) dX6_set_153 (by decide) rfl ?_
                    refine xg_iload (pc := 155) dX6_set_155 rfl ?_
                    exact xg_iret (pc := 157) dX6_set_157 rfl (cqR (j := (some 0)) (by unfold sp_set; refine (if_neg (by first | exact (fun q => hn q.2) | exact (fun q => c_5 q.1) | exact ⟨c_5, Or.inl ⟨c_28, c_35⟩⟩ | exact ⟨c_5, Or.inr (Or.inl ⟨c_56, c_66⟩)⟩ | exact ⟨c_5, Or.inr (Or.inr (Or.inl ⟨c_87, c_97⟩))⟩ | exact ⟨c_5, Or.inr (Or.inr (Or.inr ⟨c_118, c_128⟩))⟩)).trans ?_; first | (with_reducible rfl) | (simp only [*, ix_0, ix_1, ix_2, ix_3, ix_4]; done) | (simp [*, ix_0, ix_1, ix_2, ix_3, ix_4]; done) | rfl | (simp_all [ix_0, ix_1, ix_2, ix_3, ix_4]; done)))
                  ·
                    refine xg_aload (pc := 131) dX6_set_131 rfl ?_
                    refine xg_get (pc := 133) dX6_set_133 flX6_120 (hp_thing0  (by omega)) rfl ?_
                    refine xg_istore (pc := 136) (ls' := [some (.ref 0), some (.int (nI tn)), some (.int w), some (.int v), some (.ref (3 + 16 * 0 + tn)), some (.int (f0 (5 + 5 * tn + 4)))]) dX6_set_136 (by decide) rfl ?_
                    refine xg_aload (pc := 138) dX6_set_138 rfl ?_
                    refine xg_iload_n (pc := 140) dX6_set_140 rfl ?_
                    refine xg_puti (pc := 141) (h' := hp (tri (upd f0 (5 + 5 * tn + 4) v) f1 f2) o mf wf q) dX6_set_141 flX6_120 (hp_thing0  (by omega)) (Nat.le_of_ble_eq_true rfl) (hs_t0  (c := 4) (by omega) (by decide)) ?_
                    refine xg_goto (pc := 144) (tgt := 155) dX6_set_144 (by decide) ?_
                    refine xg_iload (pc := 155) dX6_set_155 rfl ?_
                    exact xg_iret (pc := 157) dX6_set_157 rfl (cqR (j := none) (by unfold sp_set; refine (if_pos (by first | exact (fun q => hn q.2) | exact (fun q => c_5 q.1) | exact ⟨c_5, Or.inl ⟨c_28, c_35⟩⟩ | exact ⟨c_5, Or.inr (Or.inl ⟨c_56, c_66⟩)⟩ | exact ⟨c_5, Or.inr (Or.inr (Or.inl ⟨c_87, c_97⟩))⟩ | exact ⟨c_5, Or.inr (Or.inr (Or.inr ⟨c_118, c_128⟩))⟩)).trans ?_; first | (with_reducible rfl) | (simp only [*, ix_0, ix_1, ix_2, ix_3, ix_4]; done) | (simp [*, ix_0, ix_1, ix_2, ix_3, ix_4]; done) | rfl | (simp_all [ix_0, ix_1, ix_2, ix_3, ix_4]; done)))
              ·
                refine xg_aload (pc := 100) dX6_set_100 rfl ?_
                refine xg_get (pc := 102) dX6_set_102 flX6_117 (hp_thing0  (by omega)) rfl ?_
                refine xg_istore (pc := 105) (ls' := [some (.ref 0), some (.int (nI tn)), some (.int w), some (.int v), some (.ref (3 + 16 * 0 + tn)), some (.int (f0 (5 + 5 * tn + 3)))]) dX6_set_105 (by decide) rfl ?_
                refine xg_aload (pc := 107) dX6_set_107 rfl ?_
                refine xg_iload_n (pc := 109) dX6_set_109 rfl ?_
                refine xg_puti (pc := 110) (h' := hp (tri (upd f0 (5 + 5 * tn + 3) v) f1 f2) o mf wf q) dX6_set_110 flX6_117 (hp_thing0  (by omega)) (Nat.le_of_ble_eq_true rfl) (hs_t0  (c := 3) (by omega) (by decide)) ?_
                refine xg_goto (pc := 113) (tgt := 155) dX6_set_113 (by decide) ?_
                refine xg_iload (pc := 155) dX6_set_155 rfl ?_
                exact xg_iret (pc := 157) dX6_set_157 rfl (cqR (j := none) (by unfold sp_set; refine (if_pos (by first | exact (fun q => hn q.2) | exact (fun q => c_5 q.1) | exact ⟨c_5, Or.inl ⟨c_28, c_35⟩⟩ | exact ⟨c_5, Or.inr (Or.inl ⟨c_56, c_66⟩)⟩ | exact ⟨c_5, Or.inr (Or.inr (Or.inl ⟨c_87, c_97⟩))⟩ | exact ⟨c_5, Or.inr (Or.inr (Or.inr ⟨c_118, c_128⟩))⟩)).trans ?_; first | (with_reducible rfl) | (simp only [*, ix_0, ix_1, ix_2, ix_3, ix_4]; done) | (simp [*, ix_0, ix_1, ix_2, ix_3, ix_4]; done) | rfl | (simp_all [ix_0, ix_1, ix_2, ix_3, ix_4]; done)))
          ·
            refine xg_aload (pc := 69) dX6_set_69 rfl ?_
            refine xg_get (pc := 71) dX6_set_71 flX6_114 (hp_thing0  (by omega)) rfl ?_
            refine xg_istore (pc := 74) (ls' := [some (.ref 0), some (.int (nI tn)), some (.int w), some (.int v), some (.ref (3 + 16 * 0 + tn)), some (.int (f0 (5 + 5 * tn + 2)))]) dX6_set_74 (by decide) rfl ?_
            refine xg_aload (pc := 76) dX6_set_76 rfl ?_
            refine xg_iload_n (pc := 78) dX6_set_78 rfl ?_
            refine xg_puti (pc := 79) (h' := hp (tri (upd f0 (5 + 5 * tn + 2) v) f1 f2) o mf wf q) dX6_set_79 flX6_114 (hp_thing0  (by omega)) (Nat.le_of_ble_eq_true rfl) (hs_t0  (c := 2) (by omega) (by decide)) ?_
            refine xg_goto (pc := 82) (tgt := 155) dX6_set_82 (by decide) ?_
            refine xg_iload (pc := 155) dX6_set_155 rfl ?_
            exact xg_iret (pc := 157) dX6_set_157 rfl (cqR (j := none) (by unfold sp_set; refine (if_pos (by first | exact (fun q => hn q.2) | exact (fun q => c_5 q.1) | exact ⟨c_5, Or.inl ⟨c_28, c_35⟩⟩ | exact ⟨c_5, Or.inr (Or.inl ⟨c_56, c_66⟩)⟩ | exact ⟨c_5, Or.inr (Or.inr (Or.inl ⟨c_87, c_97⟩))⟩ | exact ⟨c_5, Or.inr (Or.inr (Or.inr ⟨c_118, c_128⟩))⟩)).trans ?_; first | (with_reducible rfl) | (simp only [*, ix_0, ix_1, ix_2, ix_3, ix_4]; done) | (simp [*, ix_0, ix_1, ix_2, ix_3, ix_4]; done) | rfl | (simp_all [ix_0, ix_1, ix_2, ix_3, ix_4]; done)))
      ·
        refine xg_aload (pc := 38) dX6_set_38 rfl ?_
        refine xg_get (pc := 40) dX6_set_40 flX6_111 (hp_thing0  (by omega)) rfl ?_
        refine xg_istore (pc := 43) (ls' := [some (.ref 0), some (.int (nI tn)), some (.int w), some (.int v), some (.ref (3 + 16 * 0 + tn)), some (.int (f0 (5 + 5 * tn + 1)))]) dX6_set_43 (by decide) rfl ?_
        refine xg_aload (pc := 45) dX6_set_45 rfl ?_
        refine xg_iload_n (pc := 47) dX6_set_47 rfl ?_
        refine xg_puti (pc := 48) (h' := hp (tri (upd f0 (5 + 5 * tn + 1) v) f1 f2) o mf wf q) dX6_set_48 flX6_111 (hp_thing0  (by omega)) (Nat.le_of_ble_eq_true rfl) (hs_t0  (c := 1) (by omega) (by decide)) ?_
        refine xg_goto (pc := 51) (tgt := 155) dX6_set_51 (by decide) ?_
        refine xg_iload (pc := 155) dX6_set_155 rfl ?_
        exact xg_iret (pc := 157) dX6_set_157 rfl (cqR (j := none) (by unfold sp_set; refine (if_pos (by first | exact (fun q => hn q.2) | exact (fun q => c_5 q.1) | exact ⟨c_5, Or.inl ⟨c_28, c_35⟩⟩ | exact ⟨c_5, Or.inr (Or.inl ⟨c_56, c_66⟩)⟩ | exact ⟨c_5, Or.inr (Or.inr (Or.inl ⟨c_87, c_97⟩))⟩ | exact ⟨c_5, Or.inr (Or.inr (Or.inr ⟨c_118, c_128⟩))⟩)).trans ?_; first | (with_reducible rfl) | (simp only [*, ix_0, ix_1, ix_2, ix_3, ix_4]; done) | (simp [*, ix_0, ix_1, ix_2, ix_3, ix_4]; done) | rfl | (simp_all [ix_0, ix_1, ix_2, ix_3, ix_4]; done)))
  ·
    refine xg_aload_n (pc := 8) dX6_set_8 rfl ?_
    refine xg_ldc (v := -1000000001) (pc := 9) dX6_set_9 ccX6_64 ?_
    refine xg_cvI (pc := 11) (h1 := hp (tri f0 f1 f2) (o.1, upd o.2.1 0 (o.2.1 0 + 1), o.2.2.1, o.2.2.2.1, o.2.2.2.2.1, o.2.2.2.2.2.1, o.2.2.2.2.2.2.1, o.2.2.2.2.2.2.2.1, o.2.2.2.2.2.2.2.2.1, o.2.2.2.2.2.2.2.2.2.1, o.2.2.2.2.2.2.2.2.2.2) mf wf q) (x := -1000000001) (M' := mX6_finding) dX6_set_11 lkX6_65 mcX6_finding hp_0 rfl (ev_X6_finding (j := 0) (by decide) (by decide)) rfl rfl (Nat.le_of_ble_eq_true rfl) ?_
    exact xg_iret (pc := 14) dX6_set_14 rfl (cqR (j := (some 0)) (by unfold sp_set; refine (if_neg (by first | exact (fun q => hn q.2) | exact (fun q => c_5 q.1) | exact ⟨c_5, Or.inl ⟨c_28, c_35⟩⟩ | exact ⟨c_5, Or.inr (Or.inl ⟨c_56, c_66⟩)⟩ | exact ⟨c_5, Or.inr (Or.inr (Or.inl ⟨c_87, c_97⟩))⟩ | exact ⟨c_5, Or.inr (Or.inr (Or.inr ⟨c_118, c_128⟩))⟩)).trans ?_; first | (with_reducible rfl) | (simp only [*, ix_0, ix_1, ix_2, ix_3, ix_4]; done) | (simp [*, ix_0, ix_1, ix_2, ix_3, ix_4]; done) | rfl | (simp_all [ix_0, ix_1, ix_2, ix_3, ix_4]; done)))
set_option maxRecDepth 100000 in
set_option maxHeartbeats 4000000 in
theorem ev_X6_turn {t k : Int32} (ok : okN f0) : xEv X false (d + 2) 0 0 mX6_turn [.ref 0, .int t, .int k] (hp (tri f0 f1 f2) o mf wf q) (CQ f2 o mf wf q (sp_turn f0 t k)) := by
  have h8 := ok.2.1
  refine xEv.of (ls := [some (.ref 0), some (.int t), some (.int k), none]) mcX6_turn.1.2.2.2.2 (Nat.le_of_ble_eq_true rfl) rfl ?_
  refine xg_aload_n (pc := 0) dX6_turn_0 rfl ?_
  refine xg_iload_n (pc := 1) dX6_turn_1 rfl ?_
  refine xg_cvI (pc := 2) (h1 := hp (tri f0 f1 f2) o mf wf q) (x := if 0 ≤ t ∧ t < f0 3 then 1 else 0) (M' := mX6_isThing) dX6_turn_2 lkX6_99 mcX6_isThing hp_0 rfl (ev_X6_isThing) rfl rfl (Nat.le_of_ble_eq_true rfl) ?_
  refine xg_bz (pc := 5) (tgt := 15) dX6_turn_5 (by decide) (fun c_5 => ?_) (fun c_5 => ?_)
  ·
    refine xg_aload_n (pc := 15) dX6_turn_15 rfl ?_
    refine xg_ldc (v := -1000000001) (pc := 16) dX6_turn_16 ccX6_64 ?_
    refine xg_cvI (pc := 18) (h1 := hp (tri f0 f1 f2) (o.1, upd o.2.1 0 (o.2.1 0 + 1), o.2.2.1, o.2.2.2.1, o.2.2.2.2.1, o.2.2.2.2.2.1, o.2.2.2.2.2.2.1, o.2.2.2.2.2.2.2.1, o.2.2.2.2.2.2.2.2.1, o.2.2.2.2.2.2.2.2.2.1, o.2.2.2.2.2.2.2.2.2.2) mf wf q) (x := -1000000001) (M' := mX6_finding) dX6_turn_18 lkX6_65 mcX6_finding hp_0 rfl (ev_X6_finding (j := 0) (by decide) (by decide)) rfl rfl (Nat.le_of_ble_eq_true rfl) ?_
    exact xg_iret (pc := 21) dX6_turn_21 rfl (cqR (j := (some 0)) (by unfold sp_turn; refine (if_neg (by first | assumption | (simp only [Int32.lt_iff_toInt_lt, Int32.le_iff_toInt_le, Int32.not_lt, Int32.not_le, ← Int32.toInt_inj, Int64.lt_iff_toInt_lt, Int64.le_iff_toInt_le, Int64.not_lt, Int64.not_le, Classical.not_not, Int32.reduceToInt, Int64.reduceToInt] at *; omega) | (simp_all; done))).trans ?_; first | (with_reducible rfl) | (simp only [*, ix_0, ix_1, ix_2, ix_3, ix_4]; done) | (simp [*, ix_0, ix_1, ix_2, ix_3, ix_4]; done) | rfl | (simp_all [ix_0, ix_1, ix_2, ix_3, ix_4]; done)))
  ·
    refine xg_iload_n (pc := 8) dX6_turn_8 rfl ?_
    refine xg_csI (pc := 9) (h1 := hp (tri f0 f1 f2) o mf wf q) (x := if 0 ≤ k ∧ k ≤ 5 then 1 else 0) (M' := mX6_isKind) dX6_turn_9 lkX6_85 mcX6_isKind (ev_X6_isKind) rfl rfl (Nat.le_of_ble_eq_true rfl) ?_
    refine xg_bnz (pc := 12) (tgt := 22) dX6_turn_12 (by decide) (fun c_12 => ?_) (fun c_12 => ?_)
    ·
      obtain ⟨tn, htn, rfl⟩ := idxT ok c_5
      have etn : ix (nI tn) = tn := nI_clamp (by omega)
      refine xg_aload_n (pc := 22) dX6_turn_22 rfl ?_
      refine xg_get (pc := 23) dX6_turn_23 flX6_10 hp_0 rfl ?_
      refine xg_get (pc := 26) dX6_turn_26 flX6_102 (hp_lake0 ) rfl ?_
      refine xg_iload_n (pc := 29) dX6_turn_29 rfl ?_
      refine xg_aald (pc := 30) (r := 3 + 16 * 0 + tn) tn dX6_turn_30 (hp_tarr0 ) (by decide) rfl (by omega) (by decide) (if_pos (by omega)) ?_
      refine xg_get (pc := 31) dX6_turn_31 flX6_106 (hp_thing0  (by omega)) rfl ?_
      refine xg_istore_n (pc := 34) (ls' := [some (.ref 0), some (.int (nI tn)), some (.int k), some (.int (f0 (5 + 5 * tn)))]) dX6_turn_34 (by decide) rfl ?_
      refine xg_aload_n (pc := 35) dX6_turn_35 rfl ?_
      refine xg_get (pc := 36) dX6_turn_36 flX6_10 hp_0 rfl ?_
      refine xg_get (pc := 39) dX6_turn_39 flX6_102 (hp_lake0 ) rfl ?_
      refine xg_iload_n (pc := 42) dX6_turn_42 rfl ?_
      refine xg_aald (pc := 43) (r := 3 + 16 * 0 + tn) tn dX6_turn_43 (hp_tarr0 ) (by decide) rfl (by omega) (by decide) (if_pos (by omega)) ?_
      refine xg_iload_n (pc := 44) dX6_turn_44 rfl ?_
      refine xg_puti (pc := 45) (h' := hp (tri (upd f0 (5 + 5 * tn + 0) k) f1 f2) o mf wf q) dX6_turn_45 flX6_106 (hp_thing0  (by omega)) (Nat.le_of_ble_eq_true rfl) (hs_t0  (c := 0) (by omega) (by decide)) ?_
      refine xg_iload_n (pc := 48) dX6_turn_48 rfl ?_
      exact xg_iret (pc := 49) dX6_turn_49 rfl (cqR (j := none) (by unfold sp_turn; refine (if_pos (by first | assumption | (simp only [Int32.lt_iff_toInt_lt, Int32.le_iff_toInt_le, Int32.not_lt, Int32.not_le, ← Int32.toInt_inj, Int64.lt_iff_toInt_lt, Int64.le_iff_toInt_le, Int64.not_lt, Int64.not_le, Classical.not_not, Int32.reduceToInt, Int64.reduceToInt] at *; omega) | (simp_all; done))).trans ?_; first | (with_reducible rfl) | (simp only [*, ix_0, ix_1, ix_2, ix_3, ix_4]; done) | (simp [*, ix_0, ix_1, ix_2, ix_3, ix_4]; done) | rfl | (simp_all [ix_0, ix_1, ix_2, ix_3, ix_4]; done)))
    ·
      refine xg_aload_n (pc := 15) dX6_turn_15 rfl ?_
      refine xg_ldc (v := -1000000001) (pc := 16) dX6_turn_16 ccX6_64 ?_
      refine xg_cvI (pc := 18) (h1 := hp (tri f0 f1 f2) (o.1, upd o.2.1 0 (o.2.1 0 + 1), o.2.2.1, o.2.2.2.1, o.2.2.2.2.1, o.2.2.2.2.2.1, o.2.2.2.2.2.2.1, o.2.2.2.2.2.2.2.1, o.2.2.2.2.2.2.2.2.1, o.2.2.2.2.2.2.2.2.2.1, o.2.2.2.2.2.2.2.2.2.2) mf wf q) (x := -1000000001) (M' := mX6_finding) dX6_turn_18 lkX6_65 mcX6_finding hp_0 rfl (ev_X6_finding (j := 0) (by decide) (by decide)) rfl rfl (Nat.le_of_ble_eq_true rfl) ?_
      exact xg_iret (pc := 21) dX6_turn_21 rfl (cqR (j := (some 0)) (by unfold sp_turn; refine (if_neg (by first | assumption | (simp only [Int32.lt_iff_toInt_lt, Int32.le_iff_toInt_le, Int32.not_lt, Int32.not_le, ← Int32.toInt_inj, Int64.lt_iff_toInt_lt, Int64.le_iff_toInt_le, Int64.not_lt, Int64.not_le, Classical.not_not, Int32.reduceToInt, Int64.reduceToInt] at *; omega) | (simp_all; done))).trans ?_; first | (with_reducible rfl) | (simp only [*, ix_0, ix_1, ix_2, ix_3, ix_4]; done) | (simp [*, ix_0, ix_1, ix_2, ix_3, ix_4]; done) | rfl | (simp_all [ix_0, ix_1, ix_2, ix_3, ix_4]; done)))
set_option maxRecDepth 100000 in
set_option maxHeartbeats 4000000 in
theorem ev_X6_as {t k : Int32} (ok : okN f0) (hkd : ∀ t, t < nT f0 → 0 ≤ f0 (5 + 5 * t) ∧ f0 (5 + 5 * t) ≤ 5) : xEv X false (d + 2) 0 0 mX6_as [.ref 0, .int t, .int k] (hp (tri f0 f1 f2) o mf wf q) (CQ f2 o mf wf q (sp_as f0 t k)) := by
  have h8 := ok.2.1
  refine xEv.of (ls := [some (.ref 0), some (.int t), some (.int k)]) mcX6_as.1.2.2.2.2 (Nat.le_of_ble_eq_true rfl) rfl ?_
  refine xg_aload_n (pc := 0) dX6_as_0 rfl ?_
  refine xg_iload_n (pc := 1) dX6_as_1 rfl ?_
  refine xg_cvI (pc := 2) (h1 := hp (tri f0 f1 f2) o mf wf q) (x := if 0 ≤ t ∧ t < f0 3 then 1 else 0) (M' := mX6_isThing) dX6_as_2 lkX6_99 mcX6_isThing hp_0 rfl (ev_X6_isThing) rfl rfl (Nat.le_of_ble_eq_true rfl) ?_
  refine xg_bz (pc := 5) (tgt := 15) dX6_as_5 (by decide) (fun c_5 => ?_) (fun c_5 => ?_)
  ·
    refine xg_aload_n (pc := 15) dX6_as_15 rfl ?_
    refine xg_ldc (v := -1000000001) (pc := 16) dX6_as_16 ccX6_64 ?_
    refine xg_cvI (pc := 18) (h1 := hp (tri f0 f1 f2) (o.1, upd o.2.1 0 (o.2.1 0 + 1), o.2.2.1, o.2.2.2.1, o.2.2.2.2.1, o.2.2.2.2.2.1, o.2.2.2.2.2.2.1, o.2.2.2.2.2.2.2.1, o.2.2.2.2.2.2.2.2.1, o.2.2.2.2.2.2.2.2.2.1, o.2.2.2.2.2.2.2.2.2.2) mf wf q) (x := -1000000001) (M' := mX6_finding) dX6_as_18 lkX6_65 mcX6_finding hp_0 rfl (ev_X6_finding (j := 0) (by decide) (by decide)) rfl rfl (Nat.le_of_ble_eq_true rfl) ?_
    exact xg_iret (pc := 21) dX6_as_21 rfl (cqR (j := (some 0)) (by unfold sp_as; refine (if_neg (by first | assumption | exact ⟨by assumption, by assumption⟩ | (rw [etn]; assumption) | exact (fun q => c_5 q.1) | exact (fun q => c_12 q.2))).trans ?_; first | (with_reducible rfl) | (simp only [*, ix_0, ix_1, ix_2, ix_3, ix_4]; done) | (simp [*, ix_0, ix_1, ix_2, ix_3, ix_4]; done) | rfl | (simp_all [ix_0, ix_1, ix_2, ix_3, ix_4]; done)))
  ·
    refine xg_iload_n (pc := 8) dX6_as_8 rfl ?_
    refine xg_csI (pc := 9) (h1 := hp (tri f0 f1 f2) o mf wf q) (x := if 0 ≤ k ∧ k ≤ 5 then 1 else 0) (M' := mX6_isKind) dX6_as_9 lkX6_85 mcX6_isKind (ev_X6_isKind) rfl rfl (Nat.le_of_ble_eq_true rfl) ?_
    refine xg_bnz (pc := 12) (tgt := 22) dX6_as_12 (by decide) (fun c_12 => ?_) (fun c_12 => ?_)
    ·
      obtain ⟨tn, htn, rfl⟩ := idxT ok c_5
      have etn : ix (nI tn) = tn := nI_clamp (by omega)
      refine xg_aload_n (pc := 22) dX6_as_22 rfl ?_
      refine xg_get (pc := 23) dX6_as_23 flX6_10 hp_0 rfl ?_
      refine xg_get (pc := 26) dX6_as_26 flX6_102 (hp_lake0 ) rfl ?_
      refine xg_iload_n (pc := 29) dX6_as_29 rfl ?_
      refine xg_aald (pc := 30) (r := 3 + 16 * 0 + tn) tn dX6_as_30 (hp_tarr0 ) (by decide) rfl (by omega) (by decide) (if_pos (by omega)) ?_
      refine xg_iload_n (pc := 31) dX6_as_31 rfl ?_
      refine xg_cvI (pc := 32) (h1 := hp (tri f0 f1 f2) o mf wf q) (x := if kof (f0 (5 + 5 * tn)) k then 1 else 0) (M' := mX5_isOfKind) dX6_as_32 lkX6_136 mcX5_isOfKind (hp_thing0  (by omega)) rfl (ev0_X5_isOfKind (i := tn) (by omega) (hkd tn (by omega))) rfl rfl (Nat.le_of_ble_eq_true rfl) ?_
      refine xg_bnz (pc := 35) (tgt := 45) dX6_as_35 (by decide) (fun c_35 => ?_) (fun c_35 => ?_)
      ·
        refine xg_aload_n (pc := 45) dX6_as_45 rfl ?_
        refine xg_get (pc := 46) dX6_as_46 flX6_10 hp_0 rfl ?_
        refine xg_get (pc := 49) dX6_as_49 flX6_102 (hp_lake0 ) rfl ?_
        refine xg_iload_n (pc := 52) dX6_as_52 rfl ?_
        refine xg_aald (pc := 53) (r := 3 + 16 * 0 + tn) tn dX6_as_53 (hp_tarr0 ) (by decide) rfl (by omega) (by decide) (if_pos (by omega)) ?_
        refine xg_get (pc := 54) dX6_as_54 flX6_117 (hp_thing0  (by omega)) rfl ?_
        exact xg_iret (pc := 57) dX6_as_57 rfl (cqR (j := none) (by unfold sp_as; refine (if_pos (by first | assumption | exact ⟨by assumption, by assumption⟩ | (rw [etn]; assumption) | exact (fun q => c_5 q.1) | exact (fun q => c_12 q.2))).trans ?_; refine (if_pos (by first | assumption | exact ⟨by assumption, by assumption⟩ | (rw [etn]; assumption) | exact (fun q => c_5 q.1) | exact (fun q => c_12 q.2))).trans ?_; first | (with_reducible rfl) | (simp only [*, ix_0, ix_1, ix_2, ix_3, ix_4]; done) | (simp [*, ix_0, ix_1, ix_2, ix_3, ix_4]; done) | rfl | (simp_all [ix_0, ix_1, ix_2, ix_3, ix_4]; done)))
      ·
        refine xg_aload_n (pc := 38) dX6_as_38 rfl ?_
        refine xg_ldc (v := -1000000003) (pc := 39) dX6_as_39 ccX6_139 ?_
        refine xg_cvI (pc := 41) (h1 := hp (tri f0 f1 f2) (o.1, upd o.2.1 2 (o.2.1 2 + 1), o.2.2.1, o.2.2.2.1, o.2.2.2.2.1, o.2.2.2.2.2.1, o.2.2.2.2.2.2.1, o.2.2.2.2.2.2.2.1, o.2.2.2.2.2.2.2.2.1, o.2.2.2.2.2.2.2.2.2.1, o.2.2.2.2.2.2.2.2.2.2) mf wf q) (x := -1000000003) (M' := mX6_finding) dX6_as_41 lkX6_65 mcX6_finding hp_0 rfl (ev_X6_finding (j := 2) (by decide) (by decide)) rfl rfl (Nat.le_of_ble_eq_true rfl) ?_
        exact xg_iret (pc := 44) dX6_as_44 rfl (cqR (j := (some 2)) (by unfold sp_as; refine (if_pos (by first | assumption | exact ⟨by assumption, by assumption⟩ | (rw [etn]; assumption) | exact (fun q => c_5 q.1) | exact (fun q => c_12 q.2))).trans ?_; refine (if_neg (by first | assumption | exact ⟨by assumption, by assumption⟩ | (rw [etn]; assumption) | exact (fun q => c_5 q.1) | exact (fun q => c_12 q.2))).trans ?_; first | (with_reducible rfl) | (simp only [*, ix_0, ix_1, ix_2, ix_3, ix_4]; done) | (simp [*, ix_0, ix_1, ix_2, ix_3, ix_4]; done) | rfl | (simp_all [ix_0, ix_1, ix_2, ix_3, ix_4]; done)))
    ·
      refine xg_aload_n (pc := 15) dX6_as_15 rfl ?_
      refine xg_ldc (v := -1000000001) (pc := 16) dX6_as_16 ccX6_64 ?_
      refine xg_cvI (pc := 18) (h1 := hp (tri f0 f1 f2) (o.1, upd o.2.1 0 (o.2.1 0 + 1), o.2.2.1, o.2.2.2.1, o.2.2.2.2.1, o.2.2.2.2.2.1, o.2.2.2.2.2.2.1, o.2.2.2.2.2.2.2.1, o.2.2.2.2.2.2.2.2.1, o.2.2.2.2.2.2.2.2.2.1, o.2.2.2.2.2.2.2.2.2.2) mf wf q) (x := -1000000001) (M' := mX6_finding) dX6_as_18 lkX6_65 mcX6_finding hp_0 rfl (ev_X6_finding (j := 0) (by decide) (by decide)) rfl rfl (Nat.le_of_ble_eq_true rfl) ?_
      exact xg_iret (pc := 21) dX6_as_21 rfl (cqR (j := (some 0)) (by unfold sp_as; refine (if_neg (by first | assumption | exact ⟨by assumption, by assumption⟩ | (rw [etn]; assumption) | exact (fun q => c_5 q.1) | exact (fun q => c_12 q.2))).trans ?_; first | (with_reducible rfl) | (simp only [*, ix_0, ix_1, ix_2, ix_3, ix_4]; done) | (simp [*, ix_0, ix_1, ix_2, ix_3, ix_4]; done) | rfl | (simp_all [ix_0, ix_1, ix_2, ix_3, ix_4]; done)))
set_option maxRecDepth 100000 in
set_option maxHeartbeats 4000000 in
theorem ev_X6_boat {c : Int32} (ok : okN f0) : xEv X false (d + 2) 0 0 mX6_boat [.ref 0, .int c] (hp (tri f0 f1 f2) o mf wf q) (CQ f2 o mf wf q (sp_boat f0 c)) := by
  have h5 := ok.2.2.2
  refine xEv.of (ls := [some (.ref 0), some (.int c)]) mcX6_boat.1.2.2.2.2 (Nat.le_of_ble_eq_true rfl) rfl ?_
  refine xg_iload_n (pc := 0) dX6_boat_0 rfl ?_
  refine xg_csI (pc := 1) (h1 := hp (tri f0 f1 f2) o mf wf q) (x := if 0 ≤ c ∧ c ≤ 47 then 1 else 0) (M' := mX6_isCell) dX6_boat_1 lkX6_69 mcX6_isCell (ev_X6_isCell) rfl rfl (Nat.le_of_ble_eq_true rfl) ?_
  refine xg_bnz (pc := 4) (tgt := 14) dX6_boat_4 (by decide) (fun c_4 => ?_) (fun c_4 => ?_)
  ·
    refine xg_aload_n (pc := 14) dX6_boat_14 rfl ?_
    refine xg_get (pc := 15) dX6_boat_15 flX6_10 hp_0 rfl ?_
    refine xg_get (pc := 18) dX6_boat_18 flX6_140 (hp_lake0 ) rfl ?_
    refine xg_iconst (v := 5) (pc := 21) dX6_boat_21 (by decide) ?_
    refine xg_icmp_lt (pc := 22) (tgt := 32) dX6_boat_22 (by decide) (fun c_22 => ?_) (fun c_22 => ?_)
    ·
      have hr5 : nB f0 < 5 := lt_of5 ok c_22
      refine xg_aload_n (pc := 32) dX6_boat_32 rfl ?_
      refine xg_get (pc := 33) dX6_boat_33 flX6_10 hp_0 rfl ?_
      refine xg_iload_n (pc := 36) dX6_boat_36 rfl ?_
      refine xg_bipush (v := 10) (pc := 37) dX6_boat_37 (by decide) ?_
      refine xg_cvV (pc := 39) (h1 := hp (tri (aB f0 c 10) f1 f2) o mf wf q) (M' := mX1_addBoat) dX6_boat_39 lkX6_143 mcX1_addBoat (hp_lake0 ) rfl (ev0_X1_addBoat ok (by omega)) rfl rfl (Nat.le_of_ble_eq_true rfl) ?_
      refine xg_aload_n (pc := 42) dX6_boat_42 rfl ?_
      refine xg_get (pc := 43) dX6_boat_43 flX6_10 hp_0 rfl ?_
      refine xg_get (pc := 46) dX6_boat_46 flX6_140 (hp_lake0 ) rfl ?_
      refine xg_eq aB_4 ?_
      refine xg_iconst (v := 1) (pc := 49) dX6_boat_49 (by decide) ?_
      refine xg_isub (pc := 50) dX6_boat_50 ?_
      refine xg_eq add1_sub1 ?_
      exact xg_iret (pc := 51) dX6_boat_51 rfl (cqR (j := none) (by unfold sp_boat; refine (if_pos (by first | assumption | (simp only [Int32.lt_iff_toInt_lt, Int32.le_iff_toInt_le, Int32.not_lt, Int32.not_le, ← Int32.toInt_inj, Int64.lt_iff_toInt_lt, Int64.le_iff_toInt_le, Int64.not_lt, Int64.not_le, Classical.not_not, Int32.reduceToInt, Int64.reduceToInt] at *; omega) | (simp_all; done))).trans ?_; refine (if_neg (by first | assumption | (simp only [Int32.lt_iff_toInt_lt, Int32.le_iff_toInt_le, Int32.not_lt, Int32.not_le, ← Int32.toInt_inj, Int64.lt_iff_toInt_lt, Int64.le_iff_toInt_le, Int64.not_lt, Int64.not_le, Classical.not_not, Int32.reduceToInt, Int64.reduceToInt] at *; omega) | (simp_all; done))).trans ?_; first | (with_reducible rfl) | (simp only [*, ix_0, ix_1, ix_2, ix_3, ix_4]; done) | (simp [*, ix_0, ix_1, ix_2, ix_3, ix_4]; done) | rfl | (simp_all [ix_0, ix_1, ix_2, ix_3, ix_4]; done)))
    ·
      refine xg_aload_n (pc := 25) dX6_boat_25 rfl ?_
      refine xg_ldc (v := -1000000002) (pc := 26) dX6_boat_26 ccX6_94 ?_
      refine xg_cvI (pc := 28) (h1 := hp (tri f0 f1 f2) (o.1, upd o.2.1 1 (o.2.1 1 + 1), o.2.2.1, o.2.2.2.1, o.2.2.2.2.1, o.2.2.2.2.2.1, o.2.2.2.2.2.2.1, o.2.2.2.2.2.2.2.1, o.2.2.2.2.2.2.2.2.1, o.2.2.2.2.2.2.2.2.2.1, o.2.2.2.2.2.2.2.2.2.2) mf wf q) (x := -1000000002) (M' := mX6_finding) dX6_boat_28 lkX6_65 mcX6_finding hp_0 rfl (ev_X6_finding (j := 1) (by decide) (by decide)) rfl rfl (Nat.le_of_ble_eq_true rfl) ?_
      exact xg_iret (pc := 31) dX6_boat_31 rfl (cqR (j := (some 1)) (by unfold sp_boat; refine (if_pos (by first | assumption | (simp only [Int32.lt_iff_toInt_lt, Int32.le_iff_toInt_le, Int32.not_lt, Int32.not_le, ← Int32.toInt_inj, Int64.lt_iff_toInt_lt, Int64.le_iff_toInt_le, Int64.not_lt, Int64.not_le, Classical.not_not, Int32.reduceToInt, Int64.reduceToInt] at *; omega) | (simp_all; done))).trans ?_; refine (if_pos (by first | assumption | (simp only [Int32.lt_iff_toInt_lt, Int32.le_iff_toInt_le, Int32.not_lt, Int32.not_le, ← Int32.toInt_inj, Int64.lt_iff_toInt_lt, Int64.le_iff_toInt_le, Int64.not_lt, Int64.not_le, Classical.not_not, Int32.reduceToInt, Int64.reduceToInt] at *; omega) | (simp_all; done))).trans ?_; first | (with_reducible rfl) | (simp only [*, ix_0, ix_1, ix_2, ix_3, ix_4]; done) | (simp [*, ix_0, ix_1, ix_2, ix_3, ix_4]; done) | rfl | (simp_all [ix_0, ix_1, ix_2, ix_3, ix_4]; done)))
  ·
    refine xg_aload_n (pc := 7) dX6_boat_7 rfl ?_
    refine xg_ldc (v := -1000000001) (pc := 8) dX6_boat_8 ccX6_64 ?_
    refine xg_cvI (pc := 10) (h1 := hp (tri f0 f1 f2) (o.1, upd o.2.1 0 (o.2.1 0 + 1), o.2.2.1, o.2.2.2.1, o.2.2.2.2.1, o.2.2.2.2.2.1, o.2.2.2.2.2.2.1, o.2.2.2.2.2.2.2.1, o.2.2.2.2.2.2.2.2.1, o.2.2.2.2.2.2.2.2.2.1, o.2.2.2.2.2.2.2.2.2.2) mf wf q) (x := -1000000001) (M' := mX6_finding) dX6_boat_10 lkX6_65 mcX6_finding hp_0 rfl (ev_X6_finding (j := 0) (by decide) (by decide)) rfl rfl (Nat.le_of_ble_eq_true rfl) ?_
    exact xg_iret (pc := 13) dX6_boat_13 rfl (cqR (j := (some 0)) (by unfold sp_boat; refine (if_neg (by first | assumption | (simp only [Int32.lt_iff_toInt_lt, Int32.le_iff_toInt_le, Int32.not_lt, Int32.not_le, ← Int32.toInt_inj, Int64.lt_iff_toInt_lt, Int64.le_iff_toInt_le, Int64.not_lt, Int64.not_le, Classical.not_not, Int32.reduceToInt, Int64.reduceToInt] at *; omega) | (simp_all; done))).trans ?_; first | (with_reducible rfl) | (simp only [*, ix_0, ix_1, ix_2, ix_3, ix_4]; done) | (simp [*, ix_0, ix_1, ix_2, ix_3, ix_4]; done) | rfl | (simp_all [ix_0, ix_1, ix_2, ix_3, ix_4]; done)))
set_option maxRecDepth 100000 in
set_option maxHeartbeats 4000000 in
theorem ev_X6_told {b w : Int32} (okm : okM f0) : xEv X false (d + 4) 0 0 mX6_told [.ref 0, .int b, .int w] (hp (tri f0 f1 f2) o mf wf q) (CQ f2 o mf wf q (sp_told f0 (tkC f0 (ix b)) b w)) := by
  have ok := okm.1
  have h5 := ok.2.2.2
  refine xEv.of (ls := [some (.ref 0), some (.int b), some (.int w), none]) mcX6_told.1.2.2.2.2 (Nat.le_of_ble_eq_true rfl) rfl ?_
  refine xg_aload_n (pc := 0) dX6_told_0 rfl ?_
  refine xg_iload_n (pc := 1) dX6_told_1 rfl ?_
  refine xg_cvI (pc := 2) (h1 := hp (tri f0 f1 f2) o mf wf q) (x := if 0 ≤ b ∧ b < f0 4 then 1 else 0) (M' := mX6_isBoat) dX6_told_2 lkX6_147 mcX6_isBoat hp_0 rfl (ev_X6_isBoat) rfl rfl (Nat.le_of_ble_eq_true rfl) ?_
  refine xg_bnz (pc := 5) (tgt := 15) dX6_told_5 (by decide) (fun c_5 => ?_) (fun c_5 => ?_)
  ·
    obtain ⟨bn, hbn, rfl⟩ := idxB ok c_5
    have ebn : ix (nI bn) = bn := nI_clamp (by omega)
    refine xg_aload_n (pc := 15) dX6_told_15 rfl ?_
    refine xg_get (pc := 16) dX6_told_16 flX6_10 hp_0 rfl ?_
    refine xg_get (pc := 19) dX6_told_19 flX6_150 (hp_lake0 ) rfl ?_
    refine xg_iload_n (pc := 22) dX6_told_22 rfl ?_
    refine xg_aald (pc := 23) (r := 12 + 16 * 0 + bn) bn dX6_told_23 (hp_barr0 ) (by decide) rfl (by omega) (by decide) (if_pos (by omega)) ?_
    refine xg_astore_n (pc := 24) (ls' := [some (.ref 0), some (.int (nI bn)), some (.int w), some (.ref (12 + 16 * 0 + bn))]) dX6_told_24 (by decide) rfl ?_
    refine xg_iload_n (pc := 25) dX6_told_25 rfl ?_
    by_cases w26_0 : w = 0
    ·
      refine xg_tswI (pc := 26) 0 (tgt := 60) dX6_told_26 (by rw [w26_0]; rfl) (by decide) rfl (by decide) ?_
      refine xg_aload_n (pc := 60) dX6_told_60 rfl ?_
      refine xg_get (pc := 61) dX6_told_61 flX6_154 (hp_boat0  (by omega)) rfl ?_
      exact xg_iret (pc := 64) dX6_told_64 rfl (cqR (j := none) (by unfold sp_told; refine (if_pos (by first | assumption | (simp only [Int32.lt_iff_toInt_lt, Int32.le_iff_toInt_le, Int32.not_lt, Int32.not_le, ← Int32.toInt_inj, Int64.lt_iff_toInt_lt, Int64.le_iff_toInt_le, Int64.not_lt, Int64.not_le, Classical.not_not, Int32.reduceToInt, Int64.reduceToInt] at *; omega) | (simp_all; done))).trans ?_; refine (if_pos (by first | assumption | (simp only [Int32.lt_iff_toInt_lt, Int32.le_iff_toInt_le, Int32.not_lt, Int32.not_le, ← Int32.toInt_inj, Int64.lt_iff_toInt_lt, Int64.le_iff_toInt_le, Int64.not_lt, Int64.not_le, Classical.not_not, Int32.reduceToInt, Int64.reduceToInt] at *; omega) | (simp_all; done))).trans ?_; first | (with_reducible rfl) | (simp only [*, ix_0, ix_1, ix_2, ix_3, ix_4, tkC]; done) | (simp [*, ix_0, ix_1, ix_2, ix_3, ix_4, tkC]; done) | rfl | (simp_all [ix_0, ix_1, ix_2, ix_3, ix_4]; done)))
    by_cases w26_1 : w = 1
    ·
      refine xg_tswI (pc := 26) 1 (tgt := 65) dX6_told_26 (by rw [w26_1]; rfl) (by decide) rfl (by decide) ?_
      refine xg_aload_n (pc := 65) dX6_told_65 rfl ?_
      refine xg_get (pc := 66) dX6_told_66 flX6_159 (hp_boat0  (by omega)) rfl ?_
      exact xg_iret (pc := 69) dX6_told_69 rfl (cqR (j := none) (by unfold sp_told; refine (if_pos (by first | assumption | (simp only [Int32.lt_iff_toInt_lt, Int32.le_iff_toInt_le, Int32.not_lt, Int32.not_le, ← Int32.toInt_inj, Int64.lt_iff_toInt_lt, Int64.le_iff_toInt_le, Int64.not_lt, Int64.not_le, Classical.not_not, Int32.reduceToInt, Int64.reduceToInt] at *; omega) | (simp_all; done))).trans ?_; refine (if_pos (by first | assumption | (simp only [Int32.lt_iff_toInt_lt, Int32.le_iff_toInt_le, Int32.not_lt, Int32.not_le, ← Int32.toInt_inj, Int64.lt_iff_toInt_lt, Int64.le_iff_toInt_le, Int64.not_lt, Int64.not_le, Classical.not_not, Int32.reduceToInt, Int64.reduceToInt] at *; omega) | (simp_all; done))).trans ?_; first | (with_reducible rfl) | (simp only [*, ix_0, ix_1, ix_2, ix_3, ix_4, tkC]; done) | (simp [*, ix_0, ix_1, ix_2, ix_3, ix_4, tkC]; done) | rfl | (simp_all [ix_0, ix_1, ix_2, ix_3, ix_4]; done)))
    by_cases w26_2 : w = 2
    ·
      refine xg_tswI (pc := 26) 2 (tgt := 70) dX6_told_26 (by rw [w26_2]; rfl) (by decide) rfl (by decide) ?_
      refine xg_aload_n (pc := 70) dX6_told_70 rfl ?_
      refine xg_get (pc := 71) dX6_told_71 flX6_162 (hp_boat0  (by omega)) rfl ?_
      exact xg_iret (pc := 74) dX6_told_74 rfl (cqR (j := none) (by unfold sp_told; refine (if_pos (by first | assumption | (simp only [Int32.lt_iff_toInt_lt, Int32.le_iff_toInt_le, Int32.not_lt, Int32.not_le, ← Int32.toInt_inj, Int64.lt_iff_toInt_lt, Int64.le_iff_toInt_le, Int64.not_lt, Int64.not_le, Classical.not_not, Int32.reduceToInt, Int64.reduceToInt] at *; omega) | (simp_all; done))).trans ?_; refine (if_pos (by first | assumption | (simp only [Int32.lt_iff_toInt_lt, Int32.le_iff_toInt_le, Int32.not_lt, Int32.not_le, ← Int32.toInt_inj, Int64.lt_iff_toInt_lt, Int64.le_iff_toInt_le, Int64.not_lt, Int64.not_le, Classical.not_not, Int32.reduceToInt, Int64.reduceToInt] at *; omega) | (simp_all; done))).trans ?_; first | (with_reducible rfl) | (simp only [*, ix_0, ix_1, ix_2, ix_3, ix_4, tkC]; done) | (simp [*, ix_0, ix_1, ix_2, ix_3, ix_4, tkC]; done) | rfl | (simp_all [ix_0, ix_1, ix_2, ix_3, ix_4]; done)))
    by_cases w26_3 : w = 3
    ·
      refine xg_tswI (pc := 26) 3 (tgt := 75) dX6_told_26 (by rw [w26_3]; rfl) (by decide) rfl (by decide) ?_
      refine xg_aload_n (pc := 75) dX6_told_75 rfl ?_
      refine xg_get (pc := 76) dX6_told_76 flX6_165 (hp_boat0  (by omega)) rfl ?_
      exact xg_iret (pc := 79) dX6_told_79 rfl (cqR (j := none) (by unfold sp_told; refine (if_pos (by first | assumption | (simp only [Int32.lt_iff_toInt_lt, Int32.le_iff_toInt_le, Int32.not_lt, Int32.not_le, ← Int32.toInt_inj, Int64.lt_iff_toInt_lt, Int64.le_iff_toInt_le, Int64.not_lt, Int64.not_le, Classical.not_not, Int32.reduceToInt, Int64.reduceToInt] at *; omega) | (simp_all; done))).trans ?_; refine (if_pos (by first | assumption | (simp only [Int32.lt_iff_toInt_lt, Int32.le_iff_toInt_le, Int32.not_lt, Int32.not_le, ← Int32.toInt_inj, Int64.lt_iff_toInt_lt, Int64.le_iff_toInt_le, Int64.not_lt, Int64.not_le, Classical.not_not, Int32.reduceToInt, Int64.reduceToInt] at *; omega) | (simp_all; done))).trans ?_; first | (with_reducible rfl) | (simp only [*, ix_0, ix_1, ix_2, ix_3, ix_4, tkC]; done) | (simp [*, ix_0, ix_1, ix_2, ix_3, ix_4, tkC]; done) | rfl | (simp_all [ix_0, ix_1, ix_2, ix_3, ix_4]; done)))
    by_cases w26_4 : w = 4
    ·
      refine xg_tswI (pc := 26) 4 (tgt := 80) dX6_told_26 (by rw [w26_4]; rfl) (by decide) rfl (by decide) ?_
      refine xg_aload_n (pc := 80) dX6_told_80 rfl ?_
      refine xg_aload_n (pc := 81) dX6_told_81 rfl ?_
      refine xg_get (pc := 82) dX6_told_82 flX6_10 hp_0 rfl ?_
      refine xg_aload_n (pc := 85) dX6_told_85 rfl ?_
      refine xg_get (pc := 86) dX6_told_86 flX6_154 (hp_boat0  (by omega)) rfl ?_
      refine xg_cvI (pc := 89) (h1 := hp (tri f0 f1 f2) o mf wf q) (x := glC f0 (f0 (45 + 4 * bn))) (M' := mX1_glintOf) dX6_told_89 lkX6_73 mcX1_glintOf (hp_lake0 ) rfl (ev0_X1_glintOf ok (okm.2 bn hbn)) rfl rfl (Nat.le_of_ble_eq_true rfl) ?_
      refine xg_cvI (pc := 92) (h1 := hp (tri f0 f1 f2) o mf wf q) (x := mn2 (glC f0 (f0 (45 + 4 * bn))) (mn2 (f0 (45 + 4 * bn + 1)) (999 - f0 (45 + 4 * bn + 2)))) (M' := mX0_takeFrom) dX6_told_92 lkX6_168 mcX0_takeFrom (hp_boat0  (by omega)) rfl (ev0_X0_takeFrom (j := bn) (by omega)) rfl rfl (Nat.le_of_ble_eq_true rfl) ?_
      exact xg_iret (pc := 95) dX6_told_95 rfl (cqR (j := none) (by unfold sp_told; refine (if_pos (by first | assumption | (simp only [Int32.lt_iff_toInt_lt, Int32.le_iff_toInt_le, Int32.not_lt, Int32.not_le, ← Int32.toInt_inj, Int64.lt_iff_toInt_lt, Int64.le_iff_toInt_le, Int64.not_lt, Int64.not_le, Classical.not_not, Int32.reduceToInt, Int64.reduceToInt] at *; omega) | (simp_all; done))).trans ?_; refine (if_neg (by first | assumption | (simp only [Int32.lt_iff_toInt_lt, Int32.le_iff_toInt_le, Int32.not_lt, Int32.not_le, ← Int32.toInt_inj, Int64.lt_iff_toInt_lt, Int64.le_iff_toInt_le, Int64.not_lt, Int64.not_le, Classical.not_not, Int32.reduceToInt, Int64.reduceToInt] at *; omega) | (simp_all; done))).trans ?_; refine (if_pos (by first | assumption | (simp only [Int32.lt_iff_toInt_lt, Int32.le_iff_toInt_le, Int32.not_lt, Int32.not_le, ← Int32.toInt_inj, Int64.lt_iff_toInt_lt, Int64.le_iff_toInt_le, Int64.not_lt, Int64.not_le, Classical.not_not, Int32.reduceToInt, Int64.reduceToInt] at *; omega) | (simp_all; done))).trans ?_; first | (with_reducible rfl) | (simp only [*, ix_0, ix_1, ix_2, ix_3, ix_4, tkC]; done) | (simp [*, ix_0, ix_1, ix_2, ix_3, ix_4, tkC]; done) | rfl | (simp_all [ix_0, ix_1, ix_2, ix_3, ix_4]; done)))
    refine xg_tswO (pc := 26) (tgt := 96) dX6_told_26 (by have := lv_neT (a := 0) w26_0 (by decide); have := lv_neT (a := 1) w26_1 (by decide); have := lv_neT (a := 2) w26_2 (by decide); have := lv_neT (a := 3) w26_3 (by decide); have := lv_neT (a := 4) w26_4 (by decide); omega) (by decide) ?_
    refine xg_aload_n (pc := 96) dX6_told_96 rfl ?_
    refine xg_ldc (v := -1000000001) (pc := 97) dX6_told_97 ccX6_64 ?_
    refine xg_cvI (pc := 99) (h1 := hp (tri f0 f1 f2) (o.1, upd o.2.1 0 (o.2.1 0 + 1), o.2.2.1, o.2.2.2.1, o.2.2.2.2.1, o.2.2.2.2.2.1, o.2.2.2.2.2.2.1, o.2.2.2.2.2.2.2.1, o.2.2.2.2.2.2.2.2.1, o.2.2.2.2.2.2.2.2.2.1, o.2.2.2.2.2.2.2.2.2.2) mf wf q) (x := -1000000001) (M' := mX6_finding) dX6_told_99 lkX6_65 mcX6_finding hp_0 rfl (ev_X6_finding (j := 0) (by decide) (by decide)) rfl rfl (Nat.le_of_ble_eq_true rfl) ?_
    exact xg_iret (pc := 102) dX6_told_102 rfl (cqR (j := (some 0)) (by unfold sp_told; refine (if_pos (by first | assumption | (simp only [Int32.lt_iff_toInt_lt, Int32.le_iff_toInt_le, Int32.not_lt, Int32.not_le, ← Int32.toInt_inj, Int64.lt_iff_toInt_lt, Int64.le_iff_toInt_le, Int64.not_lt, Int64.not_le, Classical.not_not, Int32.reduceToInt, Int64.reduceToInt] at *; omega) | (simp_all; done))).trans ?_; refine (if_neg (by first | assumption | (simp only [Int32.lt_iff_toInt_lt, Int32.le_iff_toInt_le, Int32.not_lt, Int32.not_le, ← Int32.toInt_inj, Int64.lt_iff_toInt_lt, Int64.le_iff_toInt_le, Int64.not_lt, Int64.not_le, Classical.not_not, Int32.reduceToInt, Int64.reduceToInt] at *; omega) | (simp_all; done))).trans ?_; refine (if_neg (by first | assumption | (simp only [Int32.lt_iff_toInt_lt, Int32.le_iff_toInt_le, Int32.not_lt, Int32.not_le, ← Int32.toInt_inj, Int64.lt_iff_toInt_lt, Int64.le_iff_toInt_le, Int64.not_lt, Int64.not_le, Classical.not_not, Int32.reduceToInt, Int64.reduceToInt] at *; omega) | (simp_all; done))).trans ?_; first | (with_reducible rfl) | (simp only [*, ix_0, ix_1, ix_2, ix_3, ix_4, tkC]; done) | (simp [*, ix_0, ix_1, ix_2, ix_3, ix_4, tkC]; done) | rfl | (simp_all [ix_0, ix_1, ix_2, ix_3, ix_4]; done)))
  ·
    refine xg_aload_n (pc := 8) dX6_told_8 rfl ?_
    refine xg_ldc (v := -1000000001) (pc := 9) dX6_told_9 ccX6_64 ?_
    refine xg_cvI (pc := 11) (h1 := hp (tri f0 f1 f2) (o.1, upd o.2.1 0 (o.2.1 0 + 1), o.2.2.1, o.2.2.2.1, o.2.2.2.2.1, o.2.2.2.2.2.1, o.2.2.2.2.2.2.1, o.2.2.2.2.2.2.2.1, o.2.2.2.2.2.2.2.2.1, o.2.2.2.2.2.2.2.2.2.1, o.2.2.2.2.2.2.2.2.2.2) mf wf q) (x := -1000000001) (M' := mX6_finding) dX6_told_11 lkX6_65 mcX6_finding hp_0 rfl (ev_X6_finding (j := 0) (by decide) (by decide)) rfl rfl (Nat.le_of_ble_eq_true rfl) ?_
    exact xg_iret (pc := 14) dX6_told_14 rfl (cqR (j := (some 0)) (by unfold sp_told; refine (if_neg (by first | assumption | (simp only [Int32.lt_iff_toInt_lt, Int32.le_iff_toInt_le, Int32.not_lt, Int32.not_le, ← Int32.toInt_inj, Int64.lt_iff_toInt_lt, Int64.le_iff_toInt_le, Int64.not_lt, Int64.not_le, Classical.not_not, Int32.reduceToInt, Int64.reduceToInt] at *; omega) | (simp_all; done))).trans ?_; first | (with_reducible rfl) | (simp only [*, ix_0, ix_1, ix_2, ix_3, ix_4, tkC]; done) | (simp [*, ix_0, ix_1, ix_2, ix_3, ix_4, tkC]; done) | rfl | (simp_all [ix_0, ix_1, ix_2, ix_3, ix_4]; done)))
set_option maxRecDepth 100000 in
set_option maxHeartbeats 4000000 in
theorem ev_X6_fit {b w v : Int32} (ok : okN f0) : xEv X false (d + 2) 0 0 mX6_fit [.ref 0, .int b, .int w, .int v] (hp (tri f0 f1 f2) o mf wf q) (CQ f2 o mf wf q (sp_fit f0 b w v)) := by
  have h5 := ok.2.2.2
  refine xEv.of (ls := [some (.ref 0), some (.int b), some (.int w), some (.int v), none, none]) mcX6_fit.1.2.2.2.2 (Nat.le_of_ble_eq_true rfl) rfl ?_
  refine xg_aload_n (pc := 0) dX6_fit_0 rfl ?_
  refine xg_iload_n (pc := 1) dX6_fit_1 rfl ?_
  refine xg_cvI (pc := 2) (h1 := hp (tri f0 f1 f2) o mf wf q) (x := if 0 ≤ b ∧ b < f0 4 then 1 else 0) (M' := mX6_isBoat) dX6_fit_2 lkX6_147 mcX6_isBoat hp_0 rfl (ev_X6_isBoat) rfl rfl (Nat.le_of_ble_eq_true rfl) ?_
  refine xg_bnz (pc := 5) (tgt := 15) dX6_fit_5 (by decide) (fun c_5 => ?_) (fun c_5 => ?_)
  ·
    obtain ⟨bn, hbn, rfl⟩ := idxB ok c_5
    have ebn : ix (nI bn) = bn := nI_clamp (by omega)
    refine xg_aload_n (pc := 15) dX6_fit_15 rfl ?_
    refine xg_get (pc := 16) dX6_fit_16 flX6_10 hp_0 rfl ?_
    refine xg_get (pc := 19) dX6_fit_19 flX6_150 (hp_lake0 ) rfl ?_
    refine xg_iload_n (pc := 22) dX6_fit_22 rfl ?_
    refine xg_aald (pc := 23) (r := 12 + 16 * 0 + bn) bn dX6_fit_23 (hp_barr0 ) (by decide) rfl (by omega) (by decide) (if_pos (by omega)) ?_
    refine xg_astore (pc := 24) (ls' := [some (.ref 0), some (.int (nI bn)), some (.int w), some (.int v), some (.ref (12 + 16 * 0 + bn)), none]) dX6_fit_24 (by decide) rfl ?_
    refine xg_iload_n (pc := 26) dX6_fit_26 rfl ?_
    refine xg_if_ne (pc := 27) (tgt := 53) dX6_fit_27 (by decide) (fun c_27 => ?_) (fun c_27 => ?_)
    ·
      refine xg_iload_n (pc := 53) dX6_fit_53 rfl ?_
      refine xg_iconst (v := 1) (pc := 54) dX6_fit_54 (by decide) ?_
      refine xg_icmp_ne (pc := 55) (tgt := 84) dX6_fit_55 (by decide) (fun c_55 => ?_) (fun c_55 => ?_)
      ·
        refine xg_aload_n (pc := 84) dX6_fit_84 rfl ?_
        refine xg_ldc (v := -1000000001) (pc := 85) dX6_fit_85 ccX6_64 ?_
        refine xg_cvI (pc := 87) (h1 := hp (tri f0 f1 f2) (o.1, upd o.2.1 0 (o.2.1 0 + 1), o.2.2.1, o.2.2.2.1, o.2.2.2.2.1, o.2.2.2.2.2.1, o.2.2.2.2.2.2.1, o.2.2.2.2.2.2.2.1, o.2.2.2.2.2.2.2.2.1, o.2.2.2.2.2.2.2.2.2.1, o.2.2.2.2.2.2.2.2.2.2) mf wf q) (x := -1000000001) (M' := mX6_finding) dX6_fit_87 lkX6_65 mcX6_finding hp_0 rfl (ev_X6_finding (j := 0) (by decide) (by decide)) rfl rfl (Nat.le_of_ble_eq_true rfl) ?_
        exact xg_iret (pc := 90) dX6_fit_90 rfl (cqR (j := (some 0)) (by unfold sp_fit; refine (if_neg (by first | assumption | (simp only [Int32.lt_iff_toInt_lt, Int32.le_iff_toInt_le, Int32.not_lt, Int32.not_le, ← Int32.toInt_inj, Int64.lt_iff_toInt_lt, Int64.le_iff_toInt_le, Int64.not_lt, Int64.not_le, Classical.not_not, Int32.reduceToInt, Int64.reduceToInt] at *; omega) | (simp_all; done))).trans ?_; first | (with_reducible rfl) | (simp only [*, ix_0, ix_1, ix_2, ix_3, ix_4]; done) | (simp [*, ix_0, ix_1, ix_2, ix_3, ix_4]; done) | rfl | (simp_all [ix_0, ix_1, ix_2, ix_3, ix_4]; done)))
      ·
        refine xg_iload_n (pc := 58) dX6_fit_58 rfl ?_
        refine xg_iconst (v := 0) (pc := 59) dX6_fit_59 (by decide) ?_
        refine xg_bipush (v := 99) (pc := 60) dX6_fit_60 (by decide) ?_
        refine xg_csI (pc := 62) (h1 := hp (tri f0 f1 f2) o mf wf q) (x := if 0 ≤ v ∧ v ≤ 99 then 1 else 0) (M' := mX6_isWithin) dX6_fit_62 lkX6_53 mcX6_isWithin (ev_X6_isWithin) rfl rfl (Nat.le_of_ble_eq_true rfl) ?_
        refine xg_bz (pc := 65) (tgt := 84) dX6_fit_65 (by decide) (fun c_65 => ?_) (fun c_65 => ?_)
        ·
          refine xg_aload_n (pc := 84) dX6_fit_84 rfl ?_
          refine xg_ldc (v := -1000000001) (pc := 85) dX6_fit_85 ccX6_64 ?_
          refine xg_cvI (pc := 87) (h1 := hp (tri f0 f1 f2) (o.1, upd o.2.1 0 (o.2.1 0 + 1), o.2.2.1, o.2.2.2.1, o.2.2.2.2.1, o.2.2.2.2.2.1, o.2.2.2.2.2.2.1, o.2.2.2.2.2.2.2.1, o.2.2.2.2.2.2.2.2.1, o.2.2.2.2.2.2.2.2.2.1, o.2.2.2.2.2.2.2.2.2.2) mf wf q) (x := -1000000001) (M' := mX6_finding) dX6_fit_87 lkX6_65 mcX6_finding hp_0 rfl (ev_X6_finding (j := 0) (by decide) (by decide)) rfl rfl (Nat.le_of_ble_eq_true rfl) ?_
          exact xg_iret (pc := 90) dX6_fit_90 rfl (cqR (j := (some 0)) (by unfold sp_fit; refine (if_neg (by first | assumption | (simp only [Int32.lt_iff_toInt_lt, Int32.le_iff_toInt_le, Int32.not_lt, Int32.not_le, ← Int32.toInt_inj, Int64.lt_iff_toInt_lt, Int64.le_iff_toInt_le, Int64.not_lt, Int64.not_le, Classical.not_not, Int32.reduceToInt, Int64.reduceToInt] at *; omega) | (simp_all; done))).trans ?_; first | (with_reducible rfl) | (simp only [*, ix_0, ix_1, ix_2, ix_3, ix_4]; done) | (simp [*, ix_0, ix_1, ix_2, ix_3, ix_4]; done) | rfl | (simp_all [ix_0, ix_1, ix_2, ix_3, ix_4]; done)))
        ·
          refine xg_aload (pc := 68) dX6_fit_68 rfl ?_
          refine xg_get (pc := 70) dX6_fit_70 flX6_159 (hp_boat0  (by omega)) rfl ?_
          refine xg_istore (pc := 73) (ls' := [some (.ref 0), some (.int (nI bn)), some (.int w), some (.int v), some (.ref (12 + 16 * 0 + bn)), some (.int (f0 (45 + 4 * bn + 1)))]) dX6_fit_73 (by decide) rfl ?_
          refine xg_aload (pc := 75) dX6_fit_75 rfl ?_
          refine xg_iload_n (pc := 77) dX6_fit_77 rfl ?_
          refine xg_puti (pc := 78) (h' := hp (tri (upd f0 (45 + 4 * bn + 1) v) f1 f2) o mf wf q) dX6_fit_78 flX6_159 (hp_boat0  (by omega)) (Nat.le_of_ble_eq_true rfl) (hs_b0  (c := 1) (by omega) (by decide)) ?_
          refine xg_iload (pc := 81) dX6_fit_81 rfl ?_
          exact xg_iret (pc := 83) dX6_fit_83 rfl (cqR (j := none) (by unfold sp_fit; refine (if_pos (by first | assumption | (simp only [Int32.lt_iff_toInt_lt, Int32.le_iff_toInt_le, Int32.not_lt, Int32.not_le, ← Int32.toInt_inj, Int64.lt_iff_toInt_lt, Int64.le_iff_toInt_le, Int64.not_lt, Int64.not_le, Classical.not_not, Int32.reduceToInt, Int64.reduceToInt] at *; omega) | (simp_all; done))).trans ?_; first | (with_reducible rfl) | (simp only [*, ix_0, ix_1, ix_2, ix_3, ix_4]; done) | (simp [*, ix_0, ix_1, ix_2, ix_3, ix_4]; done) | rfl | (simp_all [ix_0, ix_1, ix_2, ix_3, ix_4]; done)))
    ·
      refine xg_iload_n (pc := 30) dX6_fit_30 rfl ?_
      refine xg_csI (pc := 31) (h1 := hp (tri f0 f1 f2) o mf wf q) (x := if 0 ≤ v ∧ v ≤ 47 then 1 else 0) (M' := mX6_isCell) dX6_fit_31 lkX6_69 mcX6_isCell (ev_X6_isCell) rfl rfl (Nat.le_of_ble_eq_true rfl) ?_
      refine xg_bz (pc := 34) (tgt := 53) dX6_fit_34 (by decide) (fun c_34 => ?_) (fun c_34 => ?_)
      ·
        refine xg_iload_n (pc := 53) dX6_fit_53 rfl ?_
        refine xg_iconst (v := 1) (pc := 54) dX6_fit_54 (by decide) ?_
        refine xg_icmp_ne (pc := 55) (tgt := 84) dX6_fit_55 (by decide) (fun c_55 => ?_) (fun c_55 => ?_)
        ·
          refine xg_aload_n (pc := 84) dX6_fit_84 rfl ?_
          refine xg_ldc (v := -1000000001) (pc := 85) dX6_fit_85 ccX6_64 ?_
          refine xg_cvI (pc := 87) (h1 := hp (tri f0 f1 f2) (o.1, upd o.2.1 0 (o.2.1 0 + 1), o.2.2.1, o.2.2.2.1, o.2.2.2.2.1, o.2.2.2.2.2.1, o.2.2.2.2.2.2.1, o.2.2.2.2.2.2.2.1, o.2.2.2.2.2.2.2.2.1, o.2.2.2.2.2.2.2.2.2.1, o.2.2.2.2.2.2.2.2.2.2) mf wf q) (x := -1000000001) (M' := mX6_finding) dX6_fit_87 lkX6_65 mcX6_finding hp_0 rfl (ev_X6_finding (j := 0) (by decide) (by decide)) rfl rfl (Nat.le_of_ble_eq_true rfl) ?_
          exact xg_iret (pc := 90) dX6_fit_90 rfl (cqR (j := (some 0)) (by unfold sp_fit; refine (if_neg (by first | assumption | (simp only [Int32.lt_iff_toInt_lt, Int32.le_iff_toInt_le, Int32.not_lt, Int32.not_le, ← Int32.toInt_inj, Int64.lt_iff_toInt_lt, Int64.le_iff_toInt_le, Int64.not_lt, Int64.not_le, Classical.not_not, Int32.reduceToInt, Int64.reduceToInt] at *; omega) | (simp_all; done))).trans ?_; first | (with_reducible rfl) | (simp only [*, ix_0, ix_1, ix_2, ix_3, ix_4]; done) | (simp [*, ix_0, ix_1, ix_2, ix_3, ix_4]; done) | rfl | (simp_all [ix_0, ix_1, ix_2, ix_3, ix_4]; done)))
        ·
          refine xg_iload_n (pc := 58) dX6_fit_58 rfl ?_
          refine xg_iconst (v := 0) (pc := 59) dX6_fit_59 (by decide) ?_
          refine xg_bipush (v := 99) (pc := 60) dX6_fit_60 (by decide) ?_
          refine xg_csI (pc := 62) (h1 := hp (tri f0 f1 f2) o mf wf q) (x := if 0 ≤ v ∧ v ≤ 99 then 1 else 0) (M' := mX6_isWithin) dX6_fit_62 lkX6_53 mcX6_isWithin (ev_X6_isWithin) rfl rfl (Nat.le_of_ble_eq_true rfl) ?_
          refine xg_bz (pc := 65) (tgt := 84) dX6_fit_65 (by decide) (fun c_65 => ?_) (fun c_65 => ?_)
          ·
            refine xg_aload_n (pc := 84) dX6_fit_84 rfl ?_
            refine xg_ldc (v := -1000000001) (pc := 85) dX6_fit_85 ccX6_64 ?_
            refine xg_cvI (pc := 87) (h1 := hp (tri f0 f1 f2) (o.1, upd o.2.1 0 (o.2.1 0 + 1), o.2.2.1, o.2.2.2.1, o.2.2.2.2.1, o.2.2.2.2.2.1, o.2.2.2.2.2.2.1, o.2.2.2.2.2.2.2.1, o.2.2.2.2.2.2.2.2.1, o.2.2.2.2.2.2.2.2.2.1, o.2.2.2.2.2.2.2.2.2.2) mf wf q) (x := -1000000001) (M' := mX6_finding) dX6_fit_87 lkX6_65 mcX6_finding hp_0 rfl (ev_X6_finding (j := 0) (by decide) (by decide)) rfl rfl (Nat.le_of_ble_eq_true rfl) ?_
            exact xg_iret (pc := 90) dX6_fit_90 rfl (cqR (j := (some 0)) (by unfold sp_fit; refine (if_neg (by first | assumption | (simp only [Int32.lt_iff_toInt_lt, Int32.le_iff_toInt_le, Int32.not_lt, Int32.not_le, ← Int32.toInt_inj, Int64.lt_iff_toInt_lt, Int64.le_iff_toInt_le, Int64.not_lt, Int64.not_le, Classical.not_not, Int32.reduceToInt, Int64.reduceToInt] at *; omega) | (simp_all; done))).trans ?_; first | (with_reducible rfl) | (simp only [*, ix_0, ix_1, ix_2, ix_3, ix_4]; done) | (simp [*, ix_0, ix_1, ix_2, ix_3, ix_4]; done) | rfl | (simp_all [ix_0, ix_1, ix_2, ix_3, ix_4]; done)))
          ·
            refine xg_aload (pc := 68) dX6_fit_68 rfl ?_
            refine xg_get (pc := 70) dX6_fit_70 flX6_159 (hp_boat0  (by omega)) rfl ?_
            refine xg_istore (pc := 73) (ls' := [some (.ref 0), some (.int (nI bn)), some (.int w), some (.int v), some (.ref (12 + 16 * 0 + bn)), some (.int (f0 (45 + 4 * bn + 1)))]) dX6_fit_73 (by decide) rfl ?_
            refine xg_aload (pc := 75) dX6_fit_75 rfl ?_
            refine xg_iload_n (pc := 77) dX6_fit_77 rfl ?_
            refine xg_puti (pc := 78) (h' := hp (tri (upd f0 (45 + 4 * bn + 1) v) f1 f2) o mf wf q) dX6_fit_78 flX6_159 (hp_boat0  (by omega)) (Nat.le_of_ble_eq_true rfl) (hs_b0  (c := 1) (by omega) (by decide)) ?_
            refine xg_iload (pc := 81) dX6_fit_81 rfl ?_
            exact xg_iret (pc := 83) dX6_fit_83 rfl (cqR (j := none) (by unfold sp_fit; refine (if_pos (by first | assumption | (simp only [Int32.lt_iff_toInt_lt, Int32.le_iff_toInt_le, Int32.not_lt, Int32.not_le, ← Int32.toInt_inj, Int64.lt_iff_toInt_lt, Int64.le_iff_toInt_le, Int64.not_lt, Int64.not_le, Classical.not_not, Int32.reduceToInt, Int64.reduceToInt] at *; omega) | (simp_all; done))).trans ?_; first | (with_reducible rfl) | (simp only [*, ix_0, ix_1, ix_2, ix_3, ix_4]; done) | (simp [*, ix_0, ix_1, ix_2, ix_3, ix_4]; done) | rfl | (simp_all [ix_0, ix_1, ix_2, ix_3, ix_4]; done)))
      ·
        refine xg_aload (pc := 37) dX6_fit_37 rfl ?_
        refine xg_get (pc := 39) dX6_fit_39 flX6_154 (hp_boat0  (by omega)) rfl ?_
        refine xg_istore (pc := 42) (ls' := [some (.ref 0), some (.int (nI bn)), some (.int w), some (.int v), some (.ref (12 + 16 * 0 + bn)), some (.int (f0 (45 + 4 * bn)))]) dX6_fit_42 (by decide) rfl ?_
        refine xg_aload (pc := 44) dX6_fit_44 rfl ?_
        refine xg_iload_n (pc := 46) dX6_fit_46 rfl ?_
        refine xg_puti (pc := 47) (h' := hp (tri (upd f0 (45 + 4 * bn + 0) v) f1 f2) o mf wf q) dX6_fit_47 flX6_154 (hp_boat0  (by omega)) (Nat.le_of_ble_eq_true rfl) (hs_b0  (c := 0) (by omega) (by decide)) ?_
        refine xg_iload (pc := 50) dX6_fit_50 rfl ?_
        exact xg_iret (pc := 52) dX6_fit_52 rfl (cqR (j := none) (by unfold sp_fit; refine (if_pos (by first | assumption | (simp only [Int32.lt_iff_toInt_lt, Int32.le_iff_toInt_le, Int32.not_lt, Int32.not_le, ← Int32.toInt_inj, Int64.lt_iff_toInt_lt, Int64.le_iff_toInt_le, Int64.not_lt, Int64.not_le, Classical.not_not, Int32.reduceToInt, Int64.reduceToInt] at *; omega) | (simp_all; done))).trans ?_; first | (with_reducible rfl) | (simp only [*, ix_0, ix_1, ix_2, ix_3, ix_4]; done) | (simp [*, ix_0, ix_1, ix_2, ix_3, ix_4]; done) | rfl | (simp_all [ix_0, ix_1, ix_2, ix_3, ix_4]; done)))
  ·
    refine xg_aload_n (pc := 8) dX6_fit_8 rfl ?_
    refine xg_ldc (v := -1000000001) (pc := 9) dX6_fit_9 ccX6_64 ?_
    refine xg_cvI (pc := 11) (h1 := hp (tri f0 f1 f2) (o.1, upd o.2.1 0 (o.2.1 0 + 1), o.2.2.1, o.2.2.2.1, o.2.2.2.2.1, o.2.2.2.2.2.1, o.2.2.2.2.2.2.1, o.2.2.2.2.2.2.2.1, o.2.2.2.2.2.2.2.2.1, o.2.2.2.2.2.2.2.2.2.1, o.2.2.2.2.2.2.2.2.2.2) mf wf q) (x := -1000000001) (M' := mX6_finding) dX6_fit_11 lkX6_65 mcX6_finding hp_0 rfl (ev_X6_finding (j := 0) (by decide) (by decide)) rfl rfl (Nat.le_of_ble_eq_true rfl) ?_
    exact xg_iret (pc := 14) dX6_fit_14 rfl (cqR (j := (some 0)) (by unfold sp_fit; refine (if_neg (by first | assumption | (simp only [Int32.lt_iff_toInt_lt, Int32.le_iff_toInt_le, Int32.not_lt, Int32.not_le, ← Int32.toInt_inj, Int64.lt_iff_toInt_lt, Int64.le_iff_toInt_le, Int64.not_lt, Int64.not_le, Classical.not_not, Int32.reduceToInt, Int64.reduceToInt] at *; omega) | (simp_all; done))).trans ?_; first | (with_reducible rfl) | (simp only [*, ix_0, ix_1, ix_2, ix_3, ix_4]; done) | (simp [*, ix_0, ix_1, ix_2, ix_3, ix_4]; done) | rfl | (simp_all [ix_0, ix_1, ix_2, ix_3, ix_4]; done)))
set_option maxRecDepth 100000 in
set_option maxHeartbeats 4000000 in
theorem ev_X6_hours {n : Int32} (okm : okM f0) : xEv X false (d + 7) 0 0 mX6_hours [.ref 0, .int n] (hp (tri f0 f1 f2) o mf wf q) (CQ f2 o mf wf q (sp_hours f0 (hsC (ix n) f0) n)) := by
  have ok := okm.1
  refine xEv.of (ls := [some (.ref 0), some (.int n)]) mcX6_hours.1.2.2.2.2 (Nat.le_of_ble_eq_true rfl) rfl ?_
  refine xg_iload_n (pc := 0) dX6_hours_0 rfl ?_
  refine xg_iconst (v := 1) (pc := 1) dX6_hours_1 (by decide) ?_
  refine xg_bipush (v := 60) (pc := 2) dX6_hours_2 (by decide) ?_
  refine xg_csI (pc := 4) (h1 := hp (tri f0 f1 f2) o mf wf q) (x := if 1 ≤ n ∧ n ≤ 60 then 1 else 0) (M' := mX6_isWithin) dX6_hours_4 lkX6_53 mcX6_isWithin (ev_X6_isWithin) rfl rfl (Nat.le_of_ble_eq_true rfl) ?_
  refine xg_bnz (pc := 7) (tgt := 17) dX6_hours_7 (by decide) (fun c_7 => ?_) (fun c_7 => ?_)
  ·
    refine xg_aload_n (pc := 17) dX6_hours_17 rfl ?_
    refine xg_get (pc := 18) dX6_hours_18 flX6_10 hp_0 rfl ?_
    refine xg_get (pc := 21) dX6_hours_21 flX6_123 (hp_lake0 ) rfl ?_
    refine xg_iload_n (pc := 24) dX6_hours_24 rfl ?_
    refine xg_iadd (pc := 25) dX6_hours_25 ?_
    refine xg_sipush (v := 9999) (pc := 26) dX6_hours_26 (by decide) ?_
    refine xg_icmp_le (pc := 29) (tgt := 39) dX6_hours_29 (by decide) (fun c_29 => ?_) (fun c_29 => ?_)
    ·
      obtain ⟨nn, hnn, rfl⟩ := rng1 (n := 60) c_7 (by decide)
      have enn : ix (nI nn) = nn := nI_clamp (by omega)
      refine xg_aload_n (pc := 39) dX6_hours_39 rfl ?_
      refine xg_get (pc := 40) dX6_hours_40 flX6_10 hp_0 rfl ?_
      refine xg_iload_n (pc := 43) dX6_hours_43 rfl ?_
      refine xg_cvV (pc := 44) (h1 := hp (tri (hsC nn f0) f1 f2) o mf wf q) (M' := mX1_passHours) dX6_hours_44 lkX6_172 mcX1_passHours (hp_lake0 ) rfl (ev0_X1_passHours (n := nn) okm (by omega)) rfl rfl (Nat.le_of_ble_eq_true rfl) ?_
      refine xg_aload_n (pc := 47) dX6_hours_47 rfl ?_
      refine xg_get (pc := 48) dX6_hours_48 flX6_10 hp_0 rfl ?_
      refine xg_cvI (pc := 51) (h1 := hp (tri (hsC nn f0) f1 f2) o mf wf q) (x := sumI (sB (hsC nn f0) 3) (nB (hsC nn f0))) (M' := mX1_coinsOfAll) dX6_hours_51 lkX6_176 mcX1_coinsOfAll (hp_lake0 ) rfl (ev0_X1_coinsOfAll (hsC_ok okm nn).1) rfl rfl (Nat.le_of_ble_eq_true rfl) ?_
      exact xg_iret (pc := 54) dX6_hours_54 rfl (cqR (j := none) (by unfold sp_hours; refine (if_pos (by first | assumption | (simp only [Int32.lt_iff_toInt_lt, Int32.le_iff_toInt_le, Int32.not_lt, Int32.not_le, ← Int32.toInt_inj, Int64.lt_iff_toInt_lt, Int64.le_iff_toInt_le, Int64.not_lt, Int64.not_le, Classical.not_not, Int32.reduceToInt, Int64.reduceToInt] at *; omega) | (simp_all; done))).trans ?_; refine (if_neg (by first | assumption | (simp only [Int32.lt_iff_toInt_lt, Int32.le_iff_toInt_le, Int32.not_lt, Int32.not_le, ← Int32.toInt_inj, Int64.lt_iff_toInt_lt, Int64.le_iff_toInt_le, Int64.not_lt, Int64.not_le, Classical.not_not, Int32.reduceToInt, Int64.reduceToInt] at *; omega) | (simp_all; done))).trans ?_; first | (with_reducible rfl) | (simp only [*, ix_0, ix_1, ix_2, ix_3, ix_4]; done) | (simp [*, ix_0, ix_1, ix_2, ix_3, ix_4]; done) | rfl | (simp_all [ix_0, ix_1, ix_2, ix_3, ix_4]; done)))
    ·
      refine xg_aload_n (pc := 32) dX6_hours_32 rfl ?_
      refine xg_ldc (v := -1000000005) (pc := 33) dX6_hours_33 ccX6_171 ?_
      refine xg_cvI (pc := 35) (h1 := hp (tri f0 f1 f2) (o.1, upd o.2.1 4 (o.2.1 4 + 1), o.2.2.1, o.2.2.2.1, o.2.2.2.2.1, o.2.2.2.2.2.1, o.2.2.2.2.2.2.1, o.2.2.2.2.2.2.2.1, o.2.2.2.2.2.2.2.2.1, o.2.2.2.2.2.2.2.2.2.1, o.2.2.2.2.2.2.2.2.2.2) mf wf q) (x := -1000000005) (M' := mX6_finding) dX6_hours_35 lkX6_65 mcX6_finding hp_0 rfl (ev_X6_finding (j := 4) (by decide) (by decide)) rfl rfl (Nat.le_of_ble_eq_true rfl) ?_
      exact xg_iret (pc := 38) dX6_hours_38 rfl (cqR (j := (some 4)) (by unfold sp_hours; refine (if_pos (by first | assumption | (simp only [Int32.lt_iff_toInt_lt, Int32.le_iff_toInt_le, Int32.not_lt, Int32.not_le, ← Int32.toInt_inj, Int64.lt_iff_toInt_lt, Int64.le_iff_toInt_le, Int64.not_lt, Int64.not_le, Classical.not_not, Int32.reduceToInt, Int64.reduceToInt] at *; omega) | (simp_all; done))).trans ?_; refine (if_pos (by first | assumption | (simp only [Int32.lt_iff_toInt_lt, Int32.le_iff_toInt_le, Int32.not_lt, Int32.not_le, ← Int32.toInt_inj, Int64.lt_iff_toInt_lt, Int64.le_iff_toInt_le, Int64.not_lt, Int64.not_le, Classical.not_not, Int32.reduceToInt, Int64.reduceToInt] at *; omega) | (simp_all; done))).trans ?_; first | (with_reducible rfl) | (simp only [*, ix_0, ix_1, ix_2, ix_3, ix_4]; done) | (simp [*, ix_0, ix_1, ix_2, ix_3, ix_4]; done) | rfl | (simp_all [ix_0, ix_1, ix_2, ix_3, ix_4]; done)))
  ·
    refine xg_aload_n (pc := 10) dX6_hours_10 rfl ?_
    refine xg_ldc (v := -1000000001) (pc := 11) dX6_hours_11 ccX6_64 ?_
    refine xg_cvI (pc := 13) (h1 := hp (tri f0 f1 f2) (o.1, upd o.2.1 0 (o.2.1 0 + 1), o.2.2.1, o.2.2.2.1, o.2.2.2.2.1, o.2.2.2.2.2.1, o.2.2.2.2.2.2.1, o.2.2.2.2.2.2.2.1, o.2.2.2.2.2.2.2.2.1, o.2.2.2.2.2.2.2.2.2.1, o.2.2.2.2.2.2.2.2.2.2) mf wf q) (x := -1000000001) (M' := mX6_finding) dX6_hours_13 lkX6_65 mcX6_finding hp_0 rfl (ev_X6_finding (j := 0) (by decide) (by decide)) rfl rfl (Nat.le_of_ble_eq_true rfl) ?_
    exact xg_iret (pc := 16) dX6_hours_16 rfl (cqR (j := (some 0)) (by unfold sp_hours; refine (if_neg (by first | assumption | (simp only [Int32.lt_iff_toInt_lt, Int32.le_iff_toInt_le, Int32.not_lt, Int32.not_le, ← Int32.toInt_inj, Int64.lt_iff_toInt_lt, Int64.le_iff_toInt_le, Int64.not_lt, Int64.not_le, Classical.not_not, Int32.reduceToInt, Int64.reduceToInt] at *; omega) | (simp_all; done))).trans ?_; first | (with_reducible rfl) | (simp only [*, ix_0, ix_1, ix_2, ix_3, ix_4]; done) | (simp [*, ix_0, ix_1, ix_2, ix_3, ix_4]; done) | rfl | (simp_all [ix_0, ix_1, ix_2, ix_3, ix_4]; done)))
set_option maxRecDepth 100000 in
set_option maxHeartbeats 4000000 in
theorem ev_X6_now {w : Int32} (ok : okN f0) : xEv X false (d + 5) 0 0 mX6_now [.ref 0, .int w] (hp (tri f0 f1 f2) o mf wf q) (CQ f2 o mf wf q (sp_now f0 (sumI (gAC f0) 48) w)) := by
  refine xEv.of (ls := [some (.ref 0), some (.int w)]) mcX6_now.1.2.2.2.2 (Nat.le_of_ble_eq_true rfl) rfl ?_
  refine xg_iload_n (pc := 0) dX6_now_0 rfl ?_
  by_cases w1_0 : w = 0
  ·
    refine xg_tswI (pc := 1) 0 (tgt := 44) dX6_now_1 (by rw [w1_0]; rfl) (by decide) rfl (by decide) ?_
    refine xg_aload_n (pc := 44) dX6_now_44 rfl ?_
    refine xg_get (pc := 45) dX6_now_45 flX6_10 hp_0 rfl ?_
    refine xg_get (pc := 48) dX6_now_48 flX6_123 (hp_lake0 ) rfl ?_
    exact xg_iret (pc := 51) dX6_now_51 rfl (cqR (j := none) (by unfold sp_now; refine (if_pos (by first | assumption | (simp only [Int32.lt_iff_toInt_lt, Int32.le_iff_toInt_le, Int32.not_lt, Int32.not_le, ← Int32.toInt_inj, Int64.lt_iff_toInt_lt, Int64.le_iff_toInt_le, Int64.not_lt, Int64.not_le, Classical.not_not, Int32.reduceToInt, Int64.reduceToInt] at *; omega) | (simp_all; done))).trans ?_; first | (with_reducible rfl) | (simp only [*, ix_0, ix_1, ix_2, ix_3, ix_4, md]; done) | (simp [*, ix_0, ix_1, ix_2, ix_3, ix_4, md]; done) | rfl | (simp_all [ix_0, ix_1, ix_2, ix_3, ix_4]; done)))
  by_cases w1_1 : w = 1
  ·
    refine xg_tswI (pc := 1) 1 (tgt := 52) dX6_now_1 (by rw [w1_1]; rfl) (by decide) rfl (by decide) ?_
    refine xg_aload_n (pc := 52) dX6_now_52 rfl ?_
    refine xg_get (pc := 53) dX6_now_53 flX6_10 hp_0 rfl ?_
    refine xg_get (pc := 56) dX6_now_56 flX6_123 (hp_lake0 ) rfl ?_
    refine xg_bipush (v := 24) (pc := 59) dX6_now_59 (by decide) ?_
    refine xg_irem (pc := 61) dX6_now_61 (by decide) ?_
    exact xg_iret (pc := 62) dX6_now_62 rfl (cqR (j := none) (by unfold sp_now; refine (if_neg (by first | assumption | (simp only [Int32.lt_iff_toInt_lt, Int32.le_iff_toInt_le, Int32.not_lt, Int32.not_le, ← Int32.toInt_inj, Int64.lt_iff_toInt_lt, Int64.le_iff_toInt_le, Int64.not_lt, Int64.not_le, Classical.not_not, Int32.reduceToInt, Int64.reduceToInt] at *; omega) | (simp_all; done))).trans ?_; refine (if_pos (by first | assumption | (simp only [Int32.lt_iff_toInt_lt, Int32.le_iff_toInt_le, Int32.not_lt, Int32.not_le, ← Int32.toInt_inj, Int64.lt_iff_toInt_lt, Int64.le_iff_toInt_le, Int64.not_lt, Int64.not_le, Classical.not_not, Int32.reduceToInt, Int64.reduceToInt] at *; omega) | (simp_all; done))).trans ?_; first | (with_reducible rfl) | (simp only [*, ix_0, ix_1, ix_2, ix_3, ix_4, md]; done) | (simp [*, ix_0, ix_1, ix_2, ix_3, ix_4, md]; done) | rfl | (simp_all [ix_0, ix_1, ix_2, ix_3, ix_4]; done)))
  by_cases w1_2 : w = 2
  ·
    refine xg_tswI (pc := 1) 2 (tgt := 63) dX6_now_1 (by rw [w1_2]; rfl) (by decide) rfl (by decide) ?_
    refine xg_aload_n (pc := 63) dX6_now_63 rfl ?_
    refine xg_get (pc := 64) dX6_now_64 flX6_10 hp_0 rfl ?_
    refine xg_get (pc := 67) dX6_now_67 flX6_57 (hp_lake0 ) rfl ?_
    exact xg_iret (pc := 70) dX6_now_70 rfl (cqR (j := none) (by unfold sp_now; refine (if_neg (by first | assumption | (simp only [Int32.lt_iff_toInt_lt, Int32.le_iff_toInt_le, Int32.not_lt, Int32.not_le, ← Int32.toInt_inj, Int64.lt_iff_toInt_lt, Int64.le_iff_toInt_le, Int64.not_lt, Int64.not_le, Classical.not_not, Int32.reduceToInt, Int64.reduceToInt] at *; omega) | (simp_all; done))).trans ?_; refine (if_neg (by first | assumption | (simp only [Int32.lt_iff_toInt_lt, Int32.le_iff_toInt_le, Int32.not_lt, Int32.not_le, ← Int32.toInt_inj, Int64.lt_iff_toInt_lt, Int64.le_iff_toInt_le, Int64.not_lt, Int64.not_le, Classical.not_not, Int32.reduceToInt, Int64.reduceToInt] at *; omega) | (simp_all; done))).trans ?_; refine (if_pos (by first | assumption | (simp only [Int32.lt_iff_toInt_lt, Int32.le_iff_toInt_le, Int32.not_lt, Int32.not_le, ← Int32.toInt_inj, Int64.lt_iff_toInt_lt, Int64.le_iff_toInt_le, Int64.not_lt, Int64.not_le, Classical.not_not, Int32.reduceToInt, Int64.reduceToInt] at *; omega) | (simp_all; done))).trans ?_; first | (with_reducible rfl) | (simp only [*, ix_0, ix_1, ix_2, ix_3, ix_4, md]; done) | (simp [*, ix_0, ix_1, ix_2, ix_3, ix_4, md]; done) | rfl | (simp_all [ix_0, ix_1, ix_2, ix_3, ix_4]; done)))
  by_cases w1_3 : w = 3
  ·
    refine xg_tswI (pc := 1) 3 (tgt := 71) dX6_now_1 (by rw [w1_3]; rfl) (by decide) rfl (by decide) ?_
    refine xg_aload_n (pc := 71) dX6_now_71 rfl ?_
    refine xg_get (pc := 72) dX6_now_72 flX6_10 hp_0 rfl ?_
    refine xg_get (pc := 75) dX6_now_75 flX6_61 (hp_lake0 ) rfl ?_
    exact xg_iret (pc := 78) dX6_now_78 rfl (cqR (j := none) (by unfold sp_now; refine (if_neg (by first | assumption | (simp only [Int32.lt_iff_toInt_lt, Int32.le_iff_toInt_le, Int32.not_lt, Int32.not_le, ← Int32.toInt_inj, Int64.lt_iff_toInt_lt, Int64.le_iff_toInt_le, Int64.not_lt, Int64.not_le, Classical.not_not, Int32.reduceToInt, Int64.reduceToInt] at *; omega) | (simp_all; done))).trans ?_; refine (if_neg (by first | assumption | (simp only [Int32.lt_iff_toInt_lt, Int32.le_iff_toInt_le, Int32.not_lt, Int32.not_le, ← Int32.toInt_inj, Int64.lt_iff_toInt_lt, Int64.le_iff_toInt_le, Int64.not_lt, Int64.not_le, Classical.not_not, Int32.reduceToInt, Int64.reduceToInt] at *; omega) | (simp_all; done))).trans ?_; refine (if_neg (by first | assumption | (simp only [Int32.lt_iff_toInt_lt, Int32.le_iff_toInt_le, Int32.not_lt, Int32.not_le, ← Int32.toInt_inj, Int64.lt_iff_toInt_lt, Int64.le_iff_toInt_le, Int64.not_lt, Int64.not_le, Classical.not_not, Int32.reduceToInt, Int64.reduceToInt] at *; omega) | (simp_all; done))).trans ?_; refine (if_pos (by first | assumption | (simp only [Int32.lt_iff_toInt_lt, Int32.le_iff_toInt_le, Int32.not_lt, Int32.not_le, ← Int32.toInt_inj, Int64.lt_iff_toInt_lt, Int64.le_iff_toInt_le, Int64.not_lt, Int64.not_le, Classical.not_not, Int32.reduceToInt, Int64.reduceToInt] at *; omega) | (simp_all; done))).trans ?_; first | (with_reducible rfl) | (simp only [*, ix_0, ix_1, ix_2, ix_3, ix_4, md]; done) | (simp [*, ix_0, ix_1, ix_2, ix_3, ix_4, md]; done) | rfl | (simp_all [ix_0, ix_1, ix_2, ix_3, ix_4]; done)))
  by_cases w1_4 : w = 4
  ·
    refine xg_tswI (pc := 1) 4 (tgt := 79) dX6_now_1 (by rw [w1_4]; rfl) (by decide) rfl (by decide) ?_
    refine xg_aload_n (pc := 79) dX6_now_79 rfl ?_
    refine xg_get (pc := 80) dX6_now_80 flX6_10 hp_0 rfl ?_
    refine xg_cvI (pc := 83) (h1 := hp (tri f0 f1 f2) o mf wf q) (x := sumI (lA f0) (nT f0)) (M' := mX1_lightOfAll) dX6_now_83 lkX6_179 mcX1_lightOfAll (hp_lake0 ) rfl (ev0_X1_lightOfAll ok) rfl rfl (Nat.le_of_ble_eq_true rfl) ?_
    exact xg_iret (pc := 86) dX6_now_86 rfl (cqR (j := none) (by unfold sp_now; refine (if_neg (by first | assumption | (simp only [Int32.lt_iff_toInt_lt, Int32.le_iff_toInt_le, Int32.not_lt, Int32.not_le, ← Int32.toInt_inj, Int64.lt_iff_toInt_lt, Int64.le_iff_toInt_le, Int64.not_lt, Int64.not_le, Classical.not_not, Int32.reduceToInt, Int64.reduceToInt] at *; omega) | (simp_all; done))).trans ?_; refine (if_neg (by first | assumption | (simp only [Int32.lt_iff_toInt_lt, Int32.le_iff_toInt_le, Int32.not_lt, Int32.not_le, ← Int32.toInt_inj, Int64.lt_iff_toInt_lt, Int64.le_iff_toInt_le, Int64.not_lt, Int64.not_le, Classical.not_not, Int32.reduceToInt, Int64.reduceToInt] at *; omega) | (simp_all; done))).trans ?_; refine (if_neg (by first | assumption | (simp only [Int32.lt_iff_toInt_lt, Int32.le_iff_toInt_le, Int32.not_lt, Int32.not_le, ← Int32.toInt_inj, Int64.lt_iff_toInt_lt, Int64.le_iff_toInt_le, Int64.not_lt, Int64.not_le, Classical.not_not, Int32.reduceToInt, Int64.reduceToInt] at *; omega) | (simp_all; done))).trans ?_; refine (if_neg (by first | assumption | (simp only [Int32.lt_iff_toInt_lt, Int32.le_iff_toInt_le, Int32.not_lt, Int32.not_le, ← Int32.toInt_inj, Int64.lt_iff_toInt_lt, Int64.le_iff_toInt_le, Int64.not_lt, Int64.not_le, Classical.not_not, Int32.reduceToInt, Int64.reduceToInt] at *; omega) | (simp_all; done))).trans ?_; refine (if_pos (by first | assumption | (simp only [Int32.lt_iff_toInt_lt, Int32.le_iff_toInt_le, Int32.not_lt, Int32.not_le, ← Int32.toInt_inj, Int64.lt_iff_toInt_lt, Int64.le_iff_toInt_le, Int64.not_lt, Int64.not_le, Classical.not_not, Int32.reduceToInt, Int64.reduceToInt] at *; omega) | (simp_all; done))).trans ?_; first | (with_reducible rfl) | (simp only [*, ix_0, ix_1, ix_2, ix_3, ix_4, md]; done) | (simp [*, ix_0, ix_1, ix_2, ix_3, ix_4, md]; done) | rfl | (simp_all [ix_0, ix_1, ix_2, ix_3, ix_4]; done)))
  by_cases w1_5 : w = 5
  ·
    refine xg_tswI (pc := 1) 5 (tgt := 87) dX6_now_1 (by rw [w1_5]; rfl) (by decide) rfl (by decide) ?_
    refine xg_aload_n (pc := 87) dX6_now_87 rfl ?_
    refine xg_get (pc := 88) dX6_now_88 flX6_10 hp_0 rfl ?_
    refine xg_cvI (pc := 91) (h1 := hp (tri f0 f1 f2) o mf wf q) (x := sumI (gAC f0) 48) (M' := mX1_glintOfAll) dX6_now_91 lkX6_182 mcX1_glintOfAll (hp_lake0 ) rfl (ev0_X1_glintOfAll ok) rfl rfl (Nat.le_of_ble_eq_true rfl) ?_
    exact xg_iret (pc := 94) dX6_now_94 rfl (cqR (j := none) (by unfold sp_now; refine (if_neg (by first | assumption | (simp only [Int32.lt_iff_toInt_lt, Int32.le_iff_toInt_le, Int32.not_lt, Int32.not_le, ← Int32.toInt_inj, Int64.lt_iff_toInt_lt, Int64.le_iff_toInt_le, Int64.not_lt, Int64.not_le, Classical.not_not, Int32.reduceToInt, Int64.reduceToInt] at *; omega) | (simp_all; done))).trans ?_; refine (if_neg (by first | assumption | (simp only [Int32.lt_iff_toInt_lt, Int32.le_iff_toInt_le, Int32.not_lt, Int32.not_le, ← Int32.toInt_inj, Int64.lt_iff_toInt_lt, Int64.le_iff_toInt_le, Int64.not_lt, Int64.not_le, Classical.not_not, Int32.reduceToInt, Int64.reduceToInt] at *; omega) | (simp_all; done))).trans ?_; refine (if_neg (by first | assumption | (simp only [Int32.lt_iff_toInt_lt, Int32.le_iff_toInt_le, Int32.not_lt, Int32.not_le, ← Int32.toInt_inj, Int64.lt_iff_toInt_lt, Int64.le_iff_toInt_le, Int64.not_lt, Int64.not_le, Classical.not_not, Int32.reduceToInt, Int64.reduceToInt] at *; omega) | (simp_all; done))).trans ?_; refine (if_neg (by first | assumption | (simp only [Int32.lt_iff_toInt_lt, Int32.le_iff_toInt_le, Int32.not_lt, Int32.not_le, ← Int32.toInt_inj, Int64.lt_iff_toInt_lt, Int64.le_iff_toInt_le, Int64.not_lt, Int64.not_le, Classical.not_not, Int32.reduceToInt, Int64.reduceToInt] at *; omega) | (simp_all; done))).trans ?_; refine (if_neg (by first | assumption | (simp only [Int32.lt_iff_toInt_lt, Int32.le_iff_toInt_le, Int32.not_lt, Int32.not_le, ← Int32.toInt_inj, Int64.lt_iff_toInt_lt, Int64.le_iff_toInt_le, Int64.not_lt, Int64.not_le, Classical.not_not, Int32.reduceToInt, Int64.reduceToInt] at *; omega) | (simp_all; done))).trans ?_; refine (if_pos (by first | assumption | (simp only [Int32.lt_iff_toInt_lt, Int32.le_iff_toInt_le, Int32.not_lt, Int32.not_le, ← Int32.toInt_inj, Int64.lt_iff_toInt_lt, Int64.le_iff_toInt_le, Int64.not_lt, Int64.not_le, Classical.not_not, Int32.reduceToInt, Int64.reduceToInt] at *; omega) | (simp_all; done))).trans ?_; first | (with_reducible rfl) | (simp only [*, ix_0, ix_1, ix_2, ix_3, ix_4, md]; done) | (simp [*, ix_0, ix_1, ix_2, ix_3, ix_4, md]; done) | rfl | (simp_all [ix_0, ix_1, ix_2, ix_3, ix_4]; done)))
  by_cases w1_6 : w = 6
  ·
    refine xg_tswI (pc := 1) 6 (tgt := 95) dX6_now_1 (by rw [w1_6]; rfl) (by decide) rfl (by decide) ?_
    refine xg_aload_n (pc := 95) dX6_now_95 rfl ?_
    refine xg_get (pc := 96) dX6_now_96 flX6_10 hp_0 rfl ?_
    refine xg_cvI (pc := 99) (h1 := hp (tri f0 f1 f2) o mf wf q) (x := orI (dA f0) (nT f0)) (M' := mX1_darkThings) dX6_now_99 lkX6_185 mcX1_darkThings (hp_lake0 ) rfl (ev0_X1_darkThings ok) rfl rfl (Nat.le_of_ble_eq_true rfl) ?_
    exact xg_iret (pc := 102) dX6_now_102 rfl (cqR (j := none) (by unfold sp_now; refine (if_neg (by first | assumption | (simp only [Int32.lt_iff_toInt_lt, Int32.le_iff_toInt_le, Int32.not_lt, Int32.not_le, ← Int32.toInt_inj, Int64.lt_iff_toInt_lt, Int64.le_iff_toInt_le, Int64.not_lt, Int64.not_le, Classical.not_not, Int32.reduceToInt, Int64.reduceToInt] at *; omega) | (simp_all; done))).trans ?_; refine (if_neg (by first | assumption | (simp only [Int32.lt_iff_toInt_lt, Int32.le_iff_toInt_le, Int32.not_lt, Int32.not_le, ← Int32.toInt_inj, Int64.lt_iff_toInt_lt, Int64.le_iff_toInt_le, Int64.not_lt, Int64.not_le, Classical.not_not, Int32.reduceToInt, Int64.reduceToInt] at *; omega) | (simp_all; done))).trans ?_; refine (if_neg (by first | assumption | (simp only [Int32.lt_iff_toInt_lt, Int32.le_iff_toInt_le, Int32.not_lt, Int32.not_le, ← Int32.toInt_inj, Int64.lt_iff_toInt_lt, Int64.le_iff_toInt_le, Int64.not_lt, Int64.not_le, Classical.not_not, Int32.reduceToInt, Int64.reduceToInt] at *; omega) | (simp_all; done))).trans ?_; refine (if_neg (by first | assumption | (simp only [Int32.lt_iff_toInt_lt, Int32.le_iff_toInt_le, Int32.not_lt, Int32.not_le, ← Int32.toInt_inj, Int64.lt_iff_toInt_lt, Int64.le_iff_toInt_le, Int64.not_lt, Int64.not_le, Classical.not_not, Int32.reduceToInt, Int64.reduceToInt] at *; omega) | (simp_all; done))).trans ?_; refine (if_neg (by first | assumption | (simp only [Int32.lt_iff_toInt_lt, Int32.le_iff_toInt_le, Int32.not_lt, Int32.not_le, ← Int32.toInt_inj, Int64.lt_iff_toInt_lt, Int64.le_iff_toInt_le, Int64.not_lt, Int64.not_le, Classical.not_not, Int32.reduceToInt, Int64.reduceToInt] at *; omega) | (simp_all; done))).trans ?_; refine (if_neg (by first | assumption | (simp only [Int32.lt_iff_toInt_lt, Int32.le_iff_toInt_le, Int32.not_lt, Int32.not_le, ← Int32.toInt_inj, Int64.lt_iff_toInt_lt, Int64.le_iff_toInt_le, Int64.not_lt, Int64.not_le, Classical.not_not, Int32.reduceToInt, Int64.reduceToInt] at *; omega) | (simp_all; done))).trans ?_; refine (if_pos (by first | assumption | (simp only [Int32.lt_iff_toInt_lt, Int32.le_iff_toInt_le, Int32.not_lt, Int32.not_le, ← Int32.toInt_inj, Int64.lt_iff_toInt_lt, Int64.le_iff_toInt_le, Int64.not_lt, Int64.not_le, Classical.not_not, Int32.reduceToInt, Int64.reduceToInt] at *; omega) | (simp_all; done))).trans ?_; first | (with_reducible rfl) | (simp only [*, ix_0, ix_1, ix_2, ix_3, ix_4, md]; done) | (simp [*, ix_0, ix_1, ix_2, ix_3, ix_4, md]; done) | rfl | (simp_all [ix_0, ix_1, ix_2, ix_3, ix_4]; done)))
  refine xg_tswO (pc := 1) (tgt := 103) dX6_now_1 (by have := lv_neT (a := 0) w1_0 (by decide); have := lv_neT (a := 1) w1_1 (by decide); have := lv_neT (a := 2) w1_2 (by decide); have := lv_neT (a := 3) w1_3 (by decide); have := lv_neT (a := 4) w1_4 (by decide); have := lv_neT (a := 5) w1_5 (by decide); have := lv_neT (a := 6) w1_6 (by decide); omega) (by decide) ?_
  refine xg_aload_n (pc := 103) dX6_now_103 rfl ?_
  refine xg_ldc (v := -1000000001) (pc := 104) dX6_now_104 ccX6_64 ?_
  refine xg_cvI (pc := 106) (h1 := hp (tri f0 f1 f2) (o.1, upd o.2.1 0 (o.2.1 0 + 1), o.2.2.1, o.2.2.2.1, o.2.2.2.2.1, o.2.2.2.2.2.1, o.2.2.2.2.2.2.1, o.2.2.2.2.2.2.2.1, o.2.2.2.2.2.2.2.2.1, o.2.2.2.2.2.2.2.2.2.1, o.2.2.2.2.2.2.2.2.2.2) mf wf q) (x := -1000000001) (M' := mX6_finding) dX6_now_106 lkX6_65 mcX6_finding hp_0 rfl (ev_X6_finding (j := 0) (by decide) (by decide)) rfl rfl (Nat.le_of_ble_eq_true rfl) ?_
  exact xg_iret (pc := 109) dX6_now_109 rfl (cqR (j := (some 0)) (by unfold sp_now; refine (if_neg (by first | assumption | (simp only [Int32.lt_iff_toInt_lt, Int32.le_iff_toInt_le, Int32.not_lt, Int32.not_le, ← Int32.toInt_inj, Int64.lt_iff_toInt_lt, Int64.le_iff_toInt_le, Int64.not_lt, Int64.not_le, Classical.not_not, Int32.reduceToInt, Int64.reduceToInt] at *; omega) | (simp_all; done))).trans ?_; refine (if_neg (by first | assumption | (simp only [Int32.lt_iff_toInt_lt, Int32.le_iff_toInt_le, Int32.not_lt, Int32.not_le, ← Int32.toInt_inj, Int64.lt_iff_toInt_lt, Int64.le_iff_toInt_le, Int64.not_lt, Int64.not_le, Classical.not_not, Int32.reduceToInt, Int64.reduceToInt] at *; omega) | (simp_all; done))).trans ?_; refine (if_neg (by first | assumption | (simp only [Int32.lt_iff_toInt_lt, Int32.le_iff_toInt_le, Int32.not_lt, Int32.not_le, ← Int32.toInt_inj, Int64.lt_iff_toInt_lt, Int64.le_iff_toInt_le, Int64.not_lt, Int64.not_le, Classical.not_not, Int32.reduceToInt, Int64.reduceToInt] at *; omega) | (simp_all; done))).trans ?_; refine (if_neg (by first | assumption | (simp only [Int32.lt_iff_toInt_lt, Int32.le_iff_toInt_le, Int32.not_lt, Int32.not_le, ← Int32.toInt_inj, Int64.lt_iff_toInt_lt, Int64.le_iff_toInt_le, Int64.not_lt, Int64.not_le, Classical.not_not, Int32.reduceToInt, Int64.reduceToInt] at *; omega) | (simp_all; done))).trans ?_; refine (if_neg (by first | assumption | (simp only [Int32.lt_iff_toInt_lt, Int32.le_iff_toInt_le, Int32.not_lt, Int32.not_le, ← Int32.toInt_inj, Int64.lt_iff_toInt_lt, Int64.le_iff_toInt_le, Int64.not_lt, Int64.not_le, Classical.not_not, Int32.reduceToInt, Int64.reduceToInt] at *; omega) | (simp_all; done))).trans ?_; refine (if_neg (by first | assumption | (simp only [Int32.lt_iff_toInt_lt, Int32.le_iff_toInt_le, Int32.not_lt, Int32.not_le, ← Int32.toInt_inj, Int64.lt_iff_toInt_lt, Int64.le_iff_toInt_le, Int64.not_lt, Int64.not_le, Classical.not_not, Int32.reduceToInt, Int64.reduceToInt] at *; omega) | (simp_all; done))).trans ?_; refine (if_neg (by first | assumption | (simp only [Int32.lt_iff_toInt_lt, Int32.le_iff_toInt_le, Int32.not_lt, Int32.not_le, ← Int32.toInt_inj, Int64.lt_iff_toInt_lt, Int64.le_iff_toInt_le, Int64.not_lt, Int64.not_le, Classical.not_not, Int32.reduceToInt, Int64.reduceToInt] at *; omega) | (simp_all; done))).trans ?_; first | (with_reducible rfl) | (simp only [*, ix_0, ix_1, ix_2, ix_3, ix_4, md]; done) | (simp [*, ix_0, ix_1, ix_2, ix_3, ix_4, md]; done) | rfl | (simp_all [ix_0, ix_1, ix_2, ix_3, ix_4]; done)))
end
