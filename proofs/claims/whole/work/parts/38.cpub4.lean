section
variable {X : xS} {d : Nat} {o : xO} {mf wf : Nat → Int32} {q : xQ} {f0 f1 f2 : Nat → Int32} {lk : Nat → Nat → Int32}
set_option maxRecDepth 100000 in
theorem ev_X2_isMissing {s : Nat} (hs : s < 4) : xDv X false (d + 0) mX2_isMissing [.ref (53 + 2 * s)] (hp lk o mf wf q) [.int (if o.2.2.2.2.2.2.2.2.1 s = 0 then 1 else 0)] (hp lk o mf wf q) := by
  refine xDv.of (ls := [some (.ref (53 + 2 * s))]) mcX2_isMissing.1.2.2.2.2 (Nat.le_of_ble_eq_true rfl) rfl ?_
  refine xg_aload_n (pc := 0) dX2_isMissing_0 rfl ?_
  refine xg_get (pc := 1) dX2_isMissing_1 flX2_15 (hp_sheet (by omega)) rfl ?_
  refine xg_if_ne (pc := 4) (tgt := 11) dX2_isMissing_4 (by decide) (fun c_4 => ?_) (fun c_4 => ?_)
  ·
    refine xg_iconst (v := 0) (pc := 11) dX2_isMissing_11 (by decide) ?_
    exact xg_zret (pc := 12) (ty := .boolean) dX2_isMissing_12 rfl rfl (⟨by simp [*], rfl⟩)
  ·
    refine xg_iconst (v := 1) (pc := 7) dX2_isMissing_7 (by decide) ?_
    refine xg_goto (pc := 8) (tgt := 12) dX2_isMissing_8 (by decide) ?_
    exact xg_zret (pc := 12) (ty := .boolean) dX2_isMissing_12 rfl rfl (⟨by simp [*], rfl⟩)
set_option maxRecDepth 100000 in
theorem ev_X2_hasRange {s : Nat} {a n : Int32} (hs : s < 4) : xDv X false (d + 0) mX2_hasRange [.ref (53 + 2 * s), .int a, .int n] (hp lk o mf wf q) [.int (if rgC a n (o.2.2.2.2.2.2.2.2.2.1 s) then 1 else 0)] (hp lk o mf wf q) := by
  refine xDv.of (ls := [some (.ref (53 + 2 * s)), some (.int a), some (.int n)]) mcX2_hasRange.1.2.2.2.2 (Nat.le_of_ble_eq_true rfl) rfl ?_
  refine xg_iload_n (pc := 0) dX2_hasRange_0 rfl ?_
  refine xg_if_lt (pc := 1) (tgt := 30) dX2_hasRange_1 (by decide) (fun c_1 => ?_) (fun c_1 => ?_)
  ·
    refine xg_iconst (v := 0) (pc := 30) dX2_hasRange_30 (by decide) ?_
    exact xg_zret (pc := 31) (ty := .boolean) dX2_hasRange_31 rfl rfl (⟨by (try simp only [rgC] at *); (try simp only [← Int32.not_le, ← Int64.not_le, Classical.not_not] at *); first | (simp [*]; done) | (simp_all; done) | (exfalso; simp only [Int32.lt_iff_toInt_lt, Int32.le_iff_toInt_le, Int32.not_lt, Int32.not_le, ← Int32.toInt_inj, Int64.lt_iff_toInt_lt, Int64.le_iff_toInt_le, Int64.not_lt, Int64.not_le, Classical.not_not, Int32.reduceToInt, Int64.reduceToInt] at *; omega), rfl⟩)
  ·
    refine xg_iload_n (pc := 4) dX2_hasRange_4 rfl ?_
    refine xg_if_lt (pc := 5) (tgt := 30) dX2_hasRange_5 (by decide) (fun c_5 => ?_) (fun c_5 => ?_)
    ·
      refine xg_iconst (v := 0) (pc := 30) dX2_hasRange_30 (by decide) ?_
      exact xg_zret (pc := 31) (ty := .boolean) dX2_hasRange_31 rfl rfl (⟨by (try simp only [rgC] at *); (try simp only [← Int32.not_le, ← Int64.not_le, Classical.not_not] at *); first | (simp [*]; done) | (simp_all; done) | (exfalso; simp only [Int32.lt_iff_toInt_lt, Int32.le_iff_toInt_le, Int32.not_lt, Int32.not_le, ← Int32.toInt_inj, Int64.lt_iff_toInt_lt, Int64.le_iff_toInt_le, Int64.not_lt, Int64.not_le, Classical.not_not, Int32.reduceToInt, Int64.reduceToInt] at *; omega), rfl⟩)
    ·
      refine xg_iload_n (pc := 8) dX2_hasRange_8 rfl ?_
      refine xg_aload_n (pc := 9) dX2_hasRange_9 rfl ?_
      refine xg_get (pc := 10) dX2_hasRange_10 flX2_19 (hp_sheet (by omega)) rfl ?_
      refine xg_icmp_gt (pc := 13) (tgt := 30) dX2_hasRange_13 (by decide) (fun c_13 => ?_) (fun c_13 => ?_)
      ·
        refine xg_iconst (v := 0) (pc := 30) dX2_hasRange_30 (by decide) ?_
        exact xg_zret (pc := 31) (ty := .boolean) dX2_hasRange_31 rfl rfl (⟨by (try simp only [rgC] at *); (try simp only [← Int32.not_le, ← Int64.not_le, Classical.not_not] at *); first | (simp [*]; done) | (simp_all; done) | (exfalso; simp only [Int32.lt_iff_toInt_lt, Int32.le_iff_toInt_le, Int32.not_lt, Int32.not_le, ← Int32.toInt_inj, Int64.lt_iff_toInt_lt, Int64.le_iff_toInt_le, Int64.not_lt, Int64.not_le, Classical.not_not, Int32.reduceToInt, Int64.reduceToInt] at *; omega), rfl⟩)
      ·
        refine xg_iload_n (pc := 16) dX2_hasRange_16 rfl ?_
        refine xg_aload_n (pc := 17) dX2_hasRange_17 rfl ?_
        refine xg_get (pc := 18) dX2_hasRange_18 flX2_19 (hp_sheet (by omega)) rfl ?_
        refine xg_iload_n (pc := 21) dX2_hasRange_21 rfl ?_
        refine xg_isub (pc := 22) dX2_hasRange_22 ?_
        refine xg_icmp_gt (pc := 23) (tgt := 30) dX2_hasRange_23 (by decide) (fun c_23 => ?_) (fun c_23 => ?_)
        ·
          refine xg_iconst (v := 0) (pc := 30) dX2_hasRange_30 (by decide) ?_
          exact xg_zret (pc := 31) (ty := .boolean) dX2_hasRange_31 rfl rfl (⟨by (try simp only [rgC] at *); (try simp only [← Int32.not_le, ← Int64.not_le, Classical.not_not] at *); first | (simp [*]; done) | (simp_all; done) | (exfalso; simp only [Int32.lt_iff_toInt_lt, Int32.le_iff_toInt_le, Int32.not_lt, Int32.not_le, ← Int32.toInt_inj, Int64.lt_iff_toInt_lt, Int64.le_iff_toInt_le, Int64.not_lt, Int64.not_le, Classical.not_not, Int32.reduceToInt, Int64.reduceToInt] at *; omega), rfl⟩)
        ·
          refine xg_iconst (v := 1) (pc := 26) dX2_hasRange_26 (by decide) ?_
          refine xg_goto (pc := 27) (tgt := 31) dX2_hasRange_27 (by decide) ?_
          exact xg_zret (pc := 31) (ty := .boolean) dX2_hasRange_31 rfl rfl (⟨by (try simp only [rgC] at *); (try simp only [← Int32.not_le, ← Int64.not_le, Classical.not_not] at *); first | (simp [*]; done) | (simp_all; done) | (exfalso; simp only [Int32.lt_iff_toInt_lt, Int32.le_iff_toInt_le, Int32.not_lt, Int32.not_le, ← Int32.toInt_inj, Int64.lt_iff_toInt_lt, Int64.le_iff_toInt_le, Int64.not_lt, Int64.not_le, Classical.not_not, Int32.reduceToInt, Int64.reduceToInt] at *; omega), rfl⟩)
set_option maxRecDepth 100000 in
theorem lp_X2_begin {s : Nat} {b n : Int32} (hs : s < 4) : ∀ (k tq : Nat), tq + k = 40 → xGo X false (d + 0) 0 0 mX2_begin 12 [some (.ref (53 + 2 * s)), some (.int b), some (.int n), some (.int (nI tq))] [] (hp lk (o.1, o.2.1, o.2.2.1, o.2.2.2.1, o.2.2.2.2.1, o.2.2.2.2.2.1, o.2.2.2.2.2.2.1, o.2.2.2.2.2.2.2.1, o.2.2.2.2.2.2.2.2.1, o.2.2.2.2.2.2.2.2.2.1, va_up o.2.2.2.2.2.2.2.2.2.2 s (zrL tq (o.2.2.2.2.2.2.2.2.2.2 s))) mf wf q) (fun v h' => v = [] ∧ h' = hp lk (o.1, o.2.1, o.2.2.1, o.2.2.2.1, o.2.2.2.2.1, o.2.2.2.2.2.1, o.2.2.2.2.2.2.1, o.2.2.2.2.2.2.2.1, o.2.2.2.2.2.2.2.2.1, o.2.2.2.2.2.2.2.2.2.1, va_up o.2.2.2.2.2.2.2.2.2.2 s (zrL 40 (o.2.2.2.2.2.2.2.2.2.2 s))) mf wf q) := by
  intro k
  induction k with
  | zero =>
    intro tq ht
    have etq : tq = 40 := by omega
    subst etq
    refine xg_iload_n (pc := 12) dX2_begin_12 rfl ?_
    refine xg_bipush (v := 40) (pc := 13) dX2_begin_13 (by decide) ?_
    refine xg_icmp_ge (pc := 15) (tgt := 31) dX2_begin_15 (by decide) (fun c_15 => ?_) (fun c_15 => absurd c_15 (by decide))
    exact xg_ret (pc := 31) dX2_begin_31 rfl (⟨rfl, rfl⟩)
  | succ k ih =>
    intro tq ht
    refine xg_iload_n (pc := 12) dX2_begin_12 rfl ?_
    refine xg_bipush (v := 40) (pc := 13) dX2_begin_13 (by decide) ?_
    refine xg_icmp_ge (pc := 15) (tgt := 31) dX2_begin_15 (by decide) (fun c_15 => absurd c_15 (nI_ge (b := 40) (by omega) (by omega))) (fun c_15 => ?_)
    refine xg_aload_n (pc := 18) dX2_begin_18 rfl ?_
    refine xg_get (pc := 19) dX2_begin_19 flX2_9 (hp_sheet (by omega)) rfl ?_
    refine xg_iload_n (pc := 22) dX2_begin_22 rfl ?_
    refine xg_lconst (v := 0) (pc := 23) dX2_begin_23 (by decide) ?_
    refine xg_last (pc := 24) (h' := hp lk (o.1, o.2.1, o.2.2.1, o.2.2.2.1, o.2.2.2.2.1, o.2.2.2.2.2.1, o.2.2.2.2.2.2.1, o.2.2.2.2.2.2.2.1, o.2.2.2.2.2.2.2.2.1, o.2.2.2.2.2.2.2.2.2.1, va_up (va_up o.2.2.2.2.2.2.2.2.2.2 s (zrL tq (o.2.2.2.2.2.2.2.2.2.2 s))) s (vp_updL ((va_up o.2.2.2.2.2.2.2.2.2.2 s (zrL tq (o.2.2.2.2.2.2.2.2.2.2 s))) s) tq 0)) mf wf q) tq dX2_begin_24 (hp_nums (by omega)) rfl (by omega) (by decide) (hs_sn (by omega)) ?_
    refine xg_iinc (pc := 25) (y := nI (tq + 1)) (ls' := [some (.ref (53 + 2 * s)), some (.int b), some (.int n), some (.int (nI (tq + 1)))]) dX2_begin_25 rfl (xinc _) (by decide) rfl ?_
    refine xg_goto (pc := 28) (tgt := 12) dX2_begin_28 (by decide) ?_
    rw [show va_up (va_up o.2.2.2.2.2.2.2.2.2.2 s (zrL tq (o.2.2.2.2.2.2.2.2.2.2 s))) s (vp_updL ((va_up o.2.2.2.2.2.2.2.2.2.2 s (zrL tq (o.2.2.2.2.2.2.2.2.2.2 s))) s) tq 0) = va_up o.2.2.2.2.2.2.2.2.2.2 s (zrL (tq + 1) (o.2.2.2.2.2.2.2.2.2.2 s)) from by rw [va_up_up, va_up_at, zrL_s]]
    exact ih (tq + 1) (by omega)
set_option maxRecDepth 100000 in
theorem ev_X2_begin {s : Nat} {b n : Int32} (hs : s < 4) : xDv X false (d + 0) mX2_begin [.ref (53 + 2 * s), .int b, .int n] (hp lk o mf wf q) [] (hp lk (o.1, o.2.1, o.2.2.1, o.2.2.2.1, o.2.2.2.2.1, o.2.2.2.2.2.1, o.2.2.2.2.2.2.1, o.2.2.2.2.2.2.2.1, upd o.2.2.2.2.2.2.2.2.1 s b, upd o.2.2.2.2.2.2.2.2.2.1 s n, va_up o.2.2.2.2.2.2.2.2.2.2 s (zrL 40 (o.2.2.2.2.2.2.2.2.2.2 s))) mf wf q) := by
  refine xDv.of (ls := [some (.ref (53 + 2 * s)), some (.int b), some (.int n), none]) mcX2_begin.1.2.2.2.2 (Nat.le_of_ble_eq_true rfl) rfl ?_
  refine xg_aload_n (pc := 0) dX2_begin_0 rfl ?_
  refine xg_iload_n (pc := 1) dX2_begin_1 rfl ?_
  refine xg_puti (pc := 2) (h' := hp lk (o.1, o.2.1, o.2.2.1, o.2.2.2.1, o.2.2.2.2.1, o.2.2.2.2.2.1, o.2.2.2.2.2.2.1, o.2.2.2.2.2.2.2.1, upd o.2.2.2.2.2.2.2.2.1 s b, o.2.2.2.2.2.2.2.2.2.1, o.2.2.2.2.2.2.2.2.2.2) mf wf q) dX2_begin_2 flX2_15 (hp_sheet (by omega)) (Nat.le_of_ble_eq_true rfl) (hs_sb (by omega)) ?_
  refine xg_aload_n (pc := 5) dX2_begin_5 rfl ?_
  refine xg_iload_n (pc := 6) dX2_begin_6 rfl ?_
  refine xg_puti (pc := 7) (h' := hp lk (o.1, o.2.1, o.2.2.1, o.2.2.2.1, o.2.2.2.2.1, o.2.2.2.2.2.1, o.2.2.2.2.2.2.1, o.2.2.2.2.2.2.2.1, upd o.2.2.2.2.2.2.2.2.1 s b, upd o.2.2.2.2.2.2.2.2.2.1 s n, o.2.2.2.2.2.2.2.2.2.2) mf wf q) dX2_begin_7 flX2_19 (hp_sheet (by omega)) (Nat.le_of_ble_eq_true rfl) (hs_ss (by omega)) ?_
  refine xg_iconst (v := 0) (pc := 10) dX2_begin_10 (by decide) ?_
  refine xg_istore_n (pc := 11) (ls' := [some (.ref (53 + 2 * s)), some (.int b), some (.int n), some (.int 0)]) dX2_begin_11 (by decide) rfl ?_
  have z := lp_X2_begin (X := X) (d := d) (lk := lk) (o := (o.1, o.2.1, o.2.2.1, o.2.2.2.1, o.2.2.2.2.1, o.2.2.2.2.2.1, o.2.2.2.2.2.2.1, o.2.2.2.2.2.2.2.1, upd o.2.2.2.2.2.2.2.2.1 s b, upd o.2.2.2.2.2.2.2.2.2.1 s n, o.2.2.2.2.2.2.2.2.2.2)) (mf := mf) (wf := wf) (q := q) (b := b) (n := n) hs 40 0 rfl
  rw [show va_up o.2.2.2.2.2.2.2.2.2.2 s (zrL 0 (o.2.2.2.2.2.2.2.2.2.2 s)) = o.2.2.2.2.2.2.2.2.2.2 from by rw [zrL_0, va_up_id]] at z
  exact z
set_option maxRecDepth 100000 in
theorem ev_X2_put {s i z : Nat} {v : Int64} (hs : s < 4) (hz : o.2.2.2.2.2.2.2.2.2.1 s = nI z) (hi : i < z) (hz4 : z ≤ 40) : xDv X false (d + 0) mX2_put [.ref (53 + 2 * s), .int (nI i), .long v] (hp lk o mf wf q) [] (hp lk (o.1, o.2.1, o.2.2.1, o.2.2.2.1, o.2.2.2.2.1, o.2.2.2.2.2.1, o.2.2.2.2.2.2.1, o.2.2.2.2.2.2.2.1, o.2.2.2.2.2.2.2.2.1, o.2.2.2.2.2.2.2.2.2.1, va_up o.2.2.2.2.2.2.2.2.2.2 s (vp_updL (o.2.2.2.2.2.2.2.2.2.2 s) i (cut (o.2.2.2.2.2.2.2.2.1 s) v))) mf wf q) := by
  refine xDv.of (ls := [some (.ref (53 + 2 * s)), some (.int (nI i)), some (.long v), none]) mcX2_put.1.2.2.2.2 (Nat.le_of_ble_eq_true rfl) rfl ?_
  refine xg_iload_n (pc := 0) dX2_put_0 rfl ?_
  refine xg_if_lt (pc := 1) (tgt := 12) dX2_put_1 (by decide) (fun c_1 => absurd c_1 (nI_pos (by omega))) (fun c_1 => ?_)
  refine xg_iload_n (pc := 4) dX2_put_4 rfl ?_
  refine xg_aload_n (pc := 5) dX2_put_5 rfl ?_
  refine xg_get (pc := 6) dX2_put_6 flX2_19 (hp_sheet (by omega)) rfl ?_
  refine xg_eq hz ?_
  refine xg_icmp_lt (pc := 9) (tgt := 13) dX2_put_9 (by decide) (fun c_9 => ?_) (fun c_9 => absurd c_9 (fun q => q (nI_lt (by omega) (by omega))))
  refine xg_aload_n (pc := 13) dX2_put_13 rfl ?_
  refine xg_get (pc := 14) dX2_put_14 flX2_15 (hp_sheet (by omega)) rfl ?_
  refine xg_bipush (v := 8) (pc := 17) dX2_put_17 (by decide) ?_
  refine xg_icmp_ne (pc := 19) (tgt := 35) dX2_put_19 (by decide) (fun c_19 => ?_) (fun c_19 => ?_)
  ·
    refine xg_aload_n (pc := 35) dX2_put_35 rfl ?_
    refine xg_get (pc := 36) dX2_put_36 flX2_15 (hp_sheet (by omega)) rfl ?_
    refine xg_bipush (v := 16) (pc := 39) dX2_put_39 (by decide) ?_
    refine xg_icmp_ne (pc := 41) (tgt := 57) dX2_put_41 (by decide) (fun c_41 => ?_) (fun c_41 => ?_)
    ·
      refine xg_aload_n (pc := 57) dX2_put_57 rfl ?_
      refine xg_get (pc := 58) dX2_put_58 flX2_9 (hp_sheet (by omega)) rfl ?_
      refine xg_iload_n (pc := 61) dX2_put_61 rfl ?_
      refine xg_lload_n (pc := 62) dX2_put_62 rfl ?_
      refine xg_last (pc := 63) (h' := hp lk (o.1, o.2.1, o.2.2.1, o.2.2.2.1, o.2.2.2.2.1, o.2.2.2.2.2.1, o.2.2.2.2.2.2.1, o.2.2.2.2.2.2.2.1, o.2.2.2.2.2.2.2.2.1, o.2.2.2.2.2.2.2.2.2.1, va_up o.2.2.2.2.2.2.2.2.2.2 s (vp_updL (o.2.2.2.2.2.2.2.2.2.2 s) i v)) mf wf q) i dX2_put_63 (hp_nums (by omega)) rfl (by omega) (by decide) (hs_sn (by omega)) ?_
      exact xg_ret (pc := 64) dX2_put_64 rfl (⟨rfl, by simp only [cut]; first | rw [if_pos c_19] | rw [if_neg c_19, if_pos c_41] | rw [if_neg c_19, if_neg c_41]⟩)
    ·
      refine xg_aload_n (pc := 44) dX2_put_44 rfl ?_
      refine xg_get (pc := 45) dX2_put_45 flX2_9 (hp_sheet (by omega)) rfl ?_
      refine xg_iload_n (pc := 48) dX2_put_48 rfl ?_
      refine xg_lload_n (pc := 49) dX2_put_49 rfl ?_
      refine xg_l2i (pc := 50) dX2_put_50 ?_
      refine xg_i2s (pc := 51) dX2_put_51 ?_
      refine xg_i2l (pc := 52) dX2_put_52 ?_
      refine xg_last (pc := 53) (h' := hp lk (o.1, o.2.1, o.2.2.1, o.2.2.2.1, o.2.2.2.2.1, o.2.2.2.2.2.1, o.2.2.2.2.2.2.1, o.2.2.2.2.2.2.2.1, o.2.2.2.2.2.2.2.2.1, o.2.2.2.2.2.2.2.2.2.1, va_up o.2.2.2.2.2.2.2.2.2.2 s (vp_updL (o.2.2.2.2.2.2.2.2.2.2 s) i (Int32.toInt64 ((Int32.toInt16 (Int64.toInt32 v)).toInt32)))) mf wf q) i dX2_put_53 (hp_nums (by omega)) rfl (by omega) (by decide) (hs_sn (by omega)) ?_
      refine xg_goto (pc := 54) (tgt := 64) dX2_put_54 (by decide) ?_
      exact xg_ret (pc := 64) dX2_put_64 rfl (⟨rfl, by simp only [cut]; first | rw [if_pos c_19] | rw [if_neg c_19, if_pos c_41] | rw [if_neg c_19, if_neg c_41]⟩)
  ·
    refine xg_aload_n (pc := 22) dX2_put_22 rfl ?_
    refine xg_get (pc := 23) dX2_put_23 flX2_9 (hp_sheet (by omega)) rfl ?_
    refine xg_iload_n (pc := 26) dX2_put_26 rfl ?_
    refine xg_lload_n (pc := 27) dX2_put_27 rfl ?_
    refine xg_l2i (pc := 28) dX2_put_28 ?_
    refine xg_i2b (pc := 29) dX2_put_29 ?_
    refine xg_i2l (pc := 30) dX2_put_30 ?_
    refine xg_last (pc := 31) (h' := hp lk (o.1, o.2.1, o.2.2.1, o.2.2.2.1, o.2.2.2.2.1, o.2.2.2.2.2.1, o.2.2.2.2.2.2.1, o.2.2.2.2.2.2.2.1, o.2.2.2.2.2.2.2.2.1, o.2.2.2.2.2.2.2.2.2.1, va_up o.2.2.2.2.2.2.2.2.2.2 s (vp_updL (o.2.2.2.2.2.2.2.2.2.2 s) i (Int32.toInt64 ((Int32.toInt8 (Int64.toInt32 v)).toInt32)))) mf wf q) i dX2_put_31 (hp_nums (by omega)) rfl (by omega) (by decide) (hs_sn (by omega)) ?_
    refine xg_goto (pc := 32) (tgt := 64) dX2_put_32 (by decide) ?_
    exact xg_ret (pc := 64) dX2_put_64 rfl (⟨rfl, by simp only [cut]; first | rw [if_pos c_19] | rw [if_neg c_19, if_pos c_41] | rw [if_neg c_19, if_neg c_41]⟩)
set_option maxRecDepth 100000 in
set_option maxHeartbeats 4000000 in
theorem ev_X6_sheet {s b n : Int32}  : xEv X false (d + 2) 0 0 mX6_sheet [.ref 0, .int s, .int b, .int n] (hp (tri f0 f1 f2) o mf wf q) (CP mf wf q (c_sheet o f0 f2 s b n)) := by
  refine xEv.of (ls := [some (.ref 0), some (.int s), some (.int b), some (.int n)]) mcX6_sheet.1.2.2.2.2 (Nat.le_of_ble_eq_true rfl) rfl ?_
  refine xg_iload_n (pc := 0) dX6_sheet_0 rfl ?_
  refine xg_csI (pc := 1) (h1 := hp (tri f0 f1 f2) o mf wf q) (x := if 0 ≤ s ∧ s ≤ 3 then 1 else 0) (M' := mX6_isSheet) dX6_sheet_1 lkX6_230 mcX6_isSheet (ev_X6_isSheet) rfl rfl (Nat.le_of_ble_eq_true rfl) ?_
  refine xg_bz (pc := 4) (tgt := 29) dX6_sheet_4 (by decide) (fun c_4 => ?_) (fun c_4 => ?_)
  ·
    refine xg_aload_n (pc := 29) dX6_sheet_29 rfl ?_
    refine xg_ldc (v := -1000000001) (pc := 30) dX6_sheet_30 ccX6_64 ?_
    refine xg_cvI (pc := 32) (h1 := hp (tri f0 f1 f2) (o.1, upd o.2.1 0 (o.2.1 0 + 1), o.2.2.1, o.2.2.2.1, o.2.2.2.2.1, o.2.2.2.2.2.1, o.2.2.2.2.2.2.1, o.2.2.2.2.2.2.2.1, o.2.2.2.2.2.2.2.2.1, o.2.2.2.2.2.2.2.2.2.1, o.2.2.2.2.2.2.2.2.2.2) mf wf q) (x := -1000000001) (M' := mX6_finding) dX6_sheet_32 lkX6_65 mcX6_finding hp_0 rfl (ev_X6_finding (j := 0) (by decide) (by decide)) rfl rfl (Nat.le_of_ble_eq_true rfl) ?_
    exact xg_iret (pc := 35) dX6_sheet_35 rfl (cpR (by exact if_neg (fun q => c_4 q.1)))
  ·
    refine xg_iload_n (pc := 7) dX6_sheet_7 rfl ?_
    refine xg_if_eq (pc := 8) (tgt := 36) dX6_sheet_8 (by decide) (fun c_8 => ?_) (fun c_8 => ?_)
    ·
      refine xg_iload_n (pc := 36) dX6_sheet_36 rfl ?_
      refine xg_if_ge (pc := 37) (tgt := 47) dX6_sheet_37 (by decide) (fun c_37 => ?_) (fun c_37 => ?_)
      ·
        refine xg_iload_n (pc := 47) dX6_sheet_47 rfl ?_
        refine xg_bipush (v := 40) (pc := 48) dX6_sheet_48 (by decide) ?_
        refine xg_icmp_le (pc := 50) (tgt := 60) dX6_sheet_50 (by decide) (fun c_50 => ?_) (fun c_50 => ?_)
        ·
          obtain ⟨sn, hsn, rfl⟩ := sheet_n c_4
          have esn : ix (nI sn) = sn := nI_clamp (by omega)
          refine xg_aload_n (pc := 60) dX6_sheet_60 rfl ?_
          refine xg_get (pc := 61) dX6_sheet_61 flX6_44 hp_0 rfl ?_
          refine xg_iload_n (pc := 64) dX6_sheet_64 rfl ?_
          refine xg_aald (pc := 65) (r := 53 + 2 * sn) sn dX6_sheet_65 hp_52 (by decide) rfl (by omega) (by decide) (if_pos (by omega)) ?_
          refine xg_iload_n (pc := 66) dX6_sheet_66 rfl ?_
          refine xg_iload_n (pc := 67) dX6_sheet_67 rfl ?_
          refine xg_if_ne (pc := 68) (tgt := 75) dX6_sheet_68 (by decide) (fun c_68 => ?_) (fun c_68 => ?_)
          ·
            refine xg_iload_n (pc := 75) dX6_sheet_75 rfl ?_
            refine xg_cvV (pc := 76) (h1 := hp (tri f0 f1 f2) (o.1, o.2.1, o.2.2.1, o.2.2.2.1, o.2.2.2.2.1, o.2.2.2.2.2.1, o.2.2.2.2.2.2.1, o.2.2.2.2.2.2.2.1, upd o.2.2.2.2.2.2.2.2.1 sn b, upd o.2.2.2.2.2.2.2.2.2.1 sn n, va_up o.2.2.2.2.2.2.2.2.2.2 sn (zrL 40 (o.2.2.2.2.2.2.2.2.2.2 sn))) mf wf q) (M' := mX2_begin) dX6_sheet_76 lkX6_234 mcX2_begin (hp_sheet (by omega)) rfl (ev_X2_begin (by omega)) rfl rfl (Nat.le_of_ble_eq_true rfl) ?_
            refine xg_aload_n (pc := 79) dX6_sheet_79 rfl ?_
            refine xg_get (pc := 80) dX6_sheet_80 flX6_44 hp_0 rfl ?_
            refine xg_iload_n (pc := 83) dX6_sheet_83 rfl ?_
            refine xg_aald (pc := 84) (r := 53 + 2 * sn) sn dX6_sheet_84 hp_52 (by decide) rfl (by omega) (by decide) (if_pos (by omega)) ?_
            refine xg_get (pc := 85) dX6_sheet_85 flX6_237 (hp_sheet (by omega)) rfl ?_
            refine xg_eq pk_us ?_
            exact xg_iret (pc := 88) dX6_sheet_88 rfl (cpR (by refine (if_pos ⟨c_4, by first | exact Or.inl c_8 | exact Or.inr (Or.inl c_14) | exact Or.inr (Or.inr (Or.inl c_20)) | exact Or.inr (Or.inr (Or.inr c_26))⟩).trans ((if_neg (Int32.not_lt.mpr c_37)).trans ((if_pos c_50).trans ?_)); rw [esn]; first | (rw [if_pos c_68]; rfl) | (rw [if_neg c_68]; rfl)))
          ·
            refine xg_iconst (v := 0) (pc := 71) dX6_sheet_71 (by decide) ?_
            refine xg_goto (pc := 72) (tgt := 76) dX6_sheet_72 (by decide) ?_
            refine xg_cvV (pc := 76) (h1 := hp (tri f0 f1 f2) (o.1, o.2.1, o.2.2.1, o.2.2.2.1, o.2.2.2.2.1, o.2.2.2.2.2.1, o.2.2.2.2.2.2.1, o.2.2.2.2.2.2.2.1, upd o.2.2.2.2.2.2.2.2.1 sn b, upd o.2.2.2.2.2.2.2.2.2.1 sn 0, va_up o.2.2.2.2.2.2.2.2.2.2 sn (zrL 40 (o.2.2.2.2.2.2.2.2.2.2 sn))) mf wf q) (M' := mX2_begin) dX6_sheet_76 lkX6_234 mcX2_begin (hp_sheet (by omega)) rfl (ev_X2_begin (by omega)) rfl rfl (Nat.le_of_ble_eq_true rfl) ?_
            refine xg_aload_n (pc := 79) dX6_sheet_79 rfl ?_
            refine xg_get (pc := 80) dX6_sheet_80 flX6_44 hp_0 rfl ?_
            refine xg_iload_n (pc := 83) dX6_sheet_83 rfl ?_
            refine xg_aald (pc := 84) (r := 53 + 2 * sn) sn dX6_sheet_84 hp_52 (by decide) rfl (by omega) (by decide) (if_pos (by omega)) ?_
            refine xg_get (pc := 85) dX6_sheet_85 flX6_237 (hp_sheet (by omega)) rfl ?_
            refine xg_eq pk_us ?_
            exact xg_iret (pc := 88) dX6_sheet_88 rfl (cpR (by refine (if_pos ⟨c_4, by first | exact Or.inl c_8 | exact Or.inr (Or.inl c_14) | exact Or.inr (Or.inr (Or.inl c_20)) | exact Or.inr (Or.inr (Or.inr c_26))⟩).trans ((if_neg (Int32.not_lt.mpr c_37)).trans ((if_pos c_50).trans ?_)); rw [esn]; first | (rw [if_pos c_68]; rfl) | (rw [if_neg c_68]; rfl)))
        ·
          refine xg_aload_n (pc := 53) dX6_sheet_53 rfl ?_
          refine xg_ldc (v := -1000000001) (pc := 54) dX6_sheet_54 ccX6_64 ?_
          refine xg_cvI (pc := 56) (h1 := hp (tri f0 f1 f2) (o.1, upd o.2.1 0 (o.2.1 0 + 1), o.2.2.1, o.2.2.2.1, o.2.2.2.2.1, o.2.2.2.2.2.1, o.2.2.2.2.2.2.1, o.2.2.2.2.2.2.2.1, o.2.2.2.2.2.2.2.2.1, o.2.2.2.2.2.2.2.2.2.1, o.2.2.2.2.2.2.2.2.2.2) mf wf q) (x := -1000000001) (M' := mX6_finding) dX6_sheet_56 lkX6_65 mcX6_finding hp_0 rfl (ev_X6_finding (j := 0) (by decide) (by decide)) rfl rfl (Nat.le_of_ble_eq_true rfl) ?_
          exact xg_iret (pc := 59) dX6_sheet_59 rfl (cpR (by exact (if_pos ⟨c_4, by first | exact Or.inl c_8 | exact Or.inr (Or.inl c_14) | exact Or.inr (Or.inr (Or.inl c_20)) | exact Or.inr (Or.inr (Or.inr c_26))⟩).trans ((if_neg (Int32.not_lt.mpr (Classical.not_not.mp (fun z => z c_37)))).trans (if_neg c_50))))
      ·
        refine xg_aload_n (pc := 40) dX6_sheet_40 rfl ?_
        refine xg_ldc (v := -1000000007) (pc := 41) dX6_sheet_41 ccX6_233 ?_
        refine xg_cvI (pc := 43) (h1 := hp (tri f0 f1 f2) (o.1, upd o.2.1 6 (o.2.1 6 + 1), o.2.2.1, o.2.2.2.1, o.2.2.2.2.1, o.2.2.2.2.2.1, o.2.2.2.2.2.2.1, o.2.2.2.2.2.2.2.1, o.2.2.2.2.2.2.2.2.1, o.2.2.2.2.2.2.2.2.2.1, o.2.2.2.2.2.2.2.2.2.2) mf wf q) (x := -1000000007) (M' := mX6_finding) dX6_sheet_43 lkX6_65 mcX6_finding hp_0 rfl (ev_X6_finding (j := 6) (by decide) (by decide)) rfl rfl (Nat.le_of_ble_eq_true rfl) ?_
        exact xg_iret (pc := 46) dX6_sheet_46 rfl (cpR (by exact (if_pos ⟨c_4, by first | exact Or.inl c_8 | exact Or.inr (Or.inl c_14) | exact Or.inr (Or.inr (Or.inl c_20)) | exact Or.inr (Or.inr (Or.inr c_26))⟩).trans (if_pos (Int32.not_le.mp c_37))))
    ·
      refine xg_iload_n (pc := 11) dX6_sheet_11 rfl ?_
      refine xg_bipush (v := 8) (pc := 12) dX6_sheet_12 (by decide) ?_
      refine xg_icmp_eq (pc := 14) (tgt := 36) dX6_sheet_14 (by decide) (fun c_14 => ?_) (fun c_14 => ?_)
      ·
        refine xg_iload_n (pc := 36) dX6_sheet_36 rfl ?_
        refine xg_if_ge (pc := 37) (tgt := 47) dX6_sheet_37 (by decide) (fun c_37 => ?_) (fun c_37 => ?_)
        ·
          refine xg_iload_n (pc := 47) dX6_sheet_47 rfl ?_
          refine xg_bipush (v := 40) (pc := 48) dX6_sheet_48 (by decide) ?_
          refine xg_icmp_le (pc := 50) (tgt := 60) dX6_sheet_50 (by decide) (fun c_50 => ?_) (fun c_50 => ?_)
          ·
            obtain ⟨sn, hsn, rfl⟩ := sheet_n c_4
            have esn : ix (nI sn) = sn := nI_clamp (by omega)
            refine xg_aload_n (pc := 60) dX6_sheet_60 rfl ?_
            refine xg_get (pc := 61) dX6_sheet_61 flX6_44 hp_0 rfl ?_
            refine xg_iload_n (pc := 64) dX6_sheet_64 rfl ?_
            refine xg_aald (pc := 65) (r := 53 + 2 * sn) sn dX6_sheet_65 hp_52 (by decide) rfl (by omega) (by decide) (if_pos (by omega)) ?_
            refine xg_iload_n (pc := 66) dX6_sheet_66 rfl ?_
            refine xg_iload_n (pc := 67) dX6_sheet_67 rfl ?_
            refine xg_if_ne (pc := 68) (tgt := 75) dX6_sheet_68 (by decide) (fun c_68 => ?_) (fun c_68 => ?_)
            ·
              refine xg_iload_n (pc := 75) dX6_sheet_75 rfl ?_
              refine xg_cvV (pc := 76) (h1 := hp (tri f0 f1 f2) (o.1, o.2.1, o.2.2.1, o.2.2.2.1, o.2.2.2.2.1, o.2.2.2.2.2.1, o.2.2.2.2.2.2.1, o.2.2.2.2.2.2.2.1, upd o.2.2.2.2.2.2.2.2.1 sn b, upd o.2.2.2.2.2.2.2.2.2.1 sn n, va_up o.2.2.2.2.2.2.2.2.2.2 sn (zrL 40 (o.2.2.2.2.2.2.2.2.2.2 sn))) mf wf q) (M' := mX2_begin) dX6_sheet_76 lkX6_234 mcX2_begin (hp_sheet (by omega)) rfl (ev_X2_begin (by omega)) rfl rfl (Nat.le_of_ble_eq_true rfl) ?_
              refine xg_aload_n (pc := 79) dX6_sheet_79 rfl ?_
              refine xg_get (pc := 80) dX6_sheet_80 flX6_44 hp_0 rfl ?_
              refine xg_iload_n (pc := 83) dX6_sheet_83 rfl ?_
              refine xg_aald (pc := 84) (r := 53 + 2 * sn) sn dX6_sheet_84 hp_52 (by decide) rfl (by omega) (by decide) (if_pos (by omega)) ?_
              refine xg_get (pc := 85) dX6_sheet_85 flX6_237 (hp_sheet (by omega)) rfl ?_
              refine xg_eq pk_us ?_
              exact xg_iret (pc := 88) dX6_sheet_88 rfl (cpR (by refine (if_pos ⟨c_4, by first | exact Or.inl c_8 | exact Or.inr (Or.inl c_14) | exact Or.inr (Or.inr (Or.inl c_20)) | exact Or.inr (Or.inr (Or.inr c_26))⟩).trans ((if_neg (Int32.not_lt.mpr c_37)).trans ((if_pos c_50).trans ?_)); rw [esn]; first | (rw [if_pos c_68]; rfl) | (rw [if_neg c_68]; rfl)))
            ·
              refine xg_iconst (v := 0) (pc := 71) dX6_sheet_71 (by decide) ?_
              refine xg_goto (pc := 72) (tgt := 76) dX6_sheet_72 (by decide) ?_
              refine xg_cvV (pc := 76) (h1 := hp (tri f0 f1 f2) (o.1, o.2.1, o.2.2.1, o.2.2.2.1, o.2.2.2.2.1, o.2.2.2.2.2.1, o.2.2.2.2.2.2.1, o.2.2.2.2.2.2.2.1, upd o.2.2.2.2.2.2.2.2.1 sn b, upd o.2.2.2.2.2.2.2.2.2.1 sn 0, va_up o.2.2.2.2.2.2.2.2.2.2 sn (zrL 40 (o.2.2.2.2.2.2.2.2.2.2 sn))) mf wf q) (M' := mX2_begin) dX6_sheet_76 lkX6_234 mcX2_begin (hp_sheet (by omega)) rfl (ev_X2_begin (by omega)) rfl rfl (Nat.le_of_ble_eq_true rfl) ?_
              refine xg_aload_n (pc := 79) dX6_sheet_79 rfl ?_
              refine xg_get (pc := 80) dX6_sheet_80 flX6_44 hp_0 rfl ?_
              refine xg_iload_n (pc := 83) dX6_sheet_83 rfl ?_
              refine xg_aald (pc := 84) (r := 53 + 2 * sn) sn dX6_sheet_84 hp_52 (by decide) rfl (by omega) (by decide) (if_pos (by omega)) ?_
              refine xg_get (pc := 85) dX6_sheet_85 flX6_237 (hp_sheet (by omega)) rfl ?_
              refine xg_eq pk_us ?_
              exact xg_iret (pc := 88) dX6_sheet_88 rfl (cpR (by refine (if_pos ⟨c_4, by first | exact Or.inl c_8 | exact Or.inr (Or.inl c_14) | exact Or.inr (Or.inr (Or.inl c_20)) | exact Or.inr (Or.inr (Or.inr c_26))⟩).trans ((if_neg (Int32.not_lt.mpr c_37)).trans ((if_pos c_50).trans ?_)); rw [esn]; first | (rw [if_pos c_68]; rfl) | (rw [if_neg c_68]; rfl)))
          ·
            refine xg_aload_n (pc := 53) dX6_sheet_53 rfl ?_
            refine xg_ldc (v := -1000000001) (pc := 54) dX6_sheet_54 ccX6_64 ?_
            refine xg_cvI (pc := 56) (h1 := hp (tri f0 f1 f2) (o.1, upd o.2.1 0 (o.2.1 0 + 1), o.2.2.1, o.2.2.2.1, o.2.2.2.2.1, o.2.2.2.2.2.1, o.2.2.2.2.2.2.1, o.2.2.2.2.2.2.2.1, o.2.2.2.2.2.2.2.2.1, o.2.2.2.2.2.2.2.2.2.1, o.2.2.2.2.2.2.2.2.2.2) mf wf q) (x := -1000000001) (M' := mX6_finding) dX6_sheet_56 lkX6_65 mcX6_finding hp_0 rfl (ev_X6_finding (j := 0) (by decide) (by decide)) rfl rfl (Nat.le_of_ble_eq_true rfl) ?_
            exact xg_iret (pc := 59) dX6_sheet_59 rfl (cpR (by exact (if_pos ⟨c_4, by first | exact Or.inl c_8 | exact Or.inr (Or.inl c_14) | exact Or.inr (Or.inr (Or.inl c_20)) | exact Or.inr (Or.inr (Or.inr c_26))⟩).trans ((if_neg (Int32.not_lt.mpr (Classical.not_not.mp (fun z => z c_37)))).trans (if_neg c_50))))
        ·
          refine xg_aload_n (pc := 40) dX6_sheet_40 rfl ?_
          refine xg_ldc (v := -1000000007) (pc := 41) dX6_sheet_41 ccX6_233 ?_
          refine xg_cvI (pc := 43) (h1 := hp (tri f0 f1 f2) (o.1, upd o.2.1 6 (o.2.1 6 + 1), o.2.2.1, o.2.2.2.1, o.2.2.2.2.1, o.2.2.2.2.2.1, o.2.2.2.2.2.2.1, o.2.2.2.2.2.2.2.1, o.2.2.2.2.2.2.2.2.1, o.2.2.2.2.2.2.2.2.2.1, o.2.2.2.2.2.2.2.2.2.2) mf wf q) (x := -1000000007) (M' := mX6_finding) dX6_sheet_43 lkX6_65 mcX6_finding hp_0 rfl (ev_X6_finding (j := 6) (by decide) (by decide)) rfl rfl (Nat.le_of_ble_eq_true rfl) ?_
          exact xg_iret (pc := 46) dX6_sheet_46 rfl (cpR (by exact (if_pos ⟨c_4, by first | exact Or.inl c_8 | exact Or.inr (Or.inl c_14) | exact Or.inr (Or.inr (Or.inl c_20)) | exact Or.inr (Or.inr (Or.inr c_26))⟩).trans (if_pos (Int32.not_le.mp c_37))))
      ·
        refine xg_iload_n (pc := 17) dX6_sheet_17 rfl ?_
        refine xg_bipush (v := 16) (pc := 18) dX6_sheet_18 (by decide) ?_
        refine xg_icmp_eq (pc := 20) (tgt := 36) dX6_sheet_20 (by decide) (fun c_20 => ?_) (fun c_20 => ?_)
        ·
          refine xg_iload_n (pc := 36) dX6_sheet_36 rfl ?_
          refine xg_if_ge (pc := 37) (tgt := 47) dX6_sheet_37 (by decide) (fun c_37 => ?_) (fun c_37 => ?_)
          ·
            refine xg_iload_n (pc := 47) dX6_sheet_47 rfl ?_
            refine xg_bipush (v := 40) (pc := 48) dX6_sheet_48 (by decide) ?_
            refine xg_icmp_le (pc := 50) (tgt := 60) dX6_sheet_50 (by decide) (fun c_50 => ?_) (fun c_50 => ?_)
            ·
              obtain ⟨sn, hsn, rfl⟩ := sheet_n c_4
              have esn : ix (nI sn) = sn := nI_clamp (by omega)
              refine xg_aload_n (pc := 60) dX6_sheet_60 rfl ?_
              refine xg_get (pc := 61) dX6_sheet_61 flX6_44 hp_0 rfl ?_
              refine xg_iload_n (pc := 64) dX6_sheet_64 rfl ?_
              refine xg_aald (pc := 65) (r := 53 + 2 * sn) sn dX6_sheet_65 hp_52 (by decide) rfl (by omega) (by decide) (if_pos (by omega)) ?_
              refine xg_iload_n (pc := 66) dX6_sheet_66 rfl ?_
              refine xg_iload_n (pc := 67) dX6_sheet_67 rfl ?_
              refine xg_if_ne (pc := 68) (tgt := 75) dX6_sheet_68 (by decide) (fun c_68 => ?_) (fun c_68 => ?_)
              ·
                refine xg_iload_n (pc := 75) dX6_sheet_75 rfl ?_
                refine xg_cvV (pc := 76) (h1 := hp (tri f0 f1 f2) (o.1, o.2.1, o.2.2.1, o.2.2.2.1, o.2.2.2.2.1, o.2.2.2.2.2.1, o.2.2.2.2.2.2.1, o.2.2.2.2.2.2.2.1, upd o.2.2.2.2.2.2.2.2.1 sn b, upd o.2.2.2.2.2.2.2.2.2.1 sn n, va_up o.2.2.2.2.2.2.2.2.2.2 sn (zrL 40 (o.2.2.2.2.2.2.2.2.2.2 sn))) mf wf q) (M' := mX2_begin) dX6_sheet_76 lkX6_234 mcX2_begin (hp_sheet (by omega)) rfl (ev_X2_begin (by omega)) rfl rfl (Nat.le_of_ble_eq_true rfl) ?_
                refine xg_aload_n (pc := 79) dX6_sheet_79 rfl ?_
                refine xg_get (pc := 80) dX6_sheet_80 flX6_44 hp_0 rfl ?_
                refine xg_iload_n (pc := 83) dX6_sheet_83 rfl ?_
                refine xg_aald (pc := 84) (r := 53 + 2 * sn) sn dX6_sheet_84 hp_52 (by decide) rfl (by omega) (by decide) (if_pos (by omega)) ?_
                refine xg_get (pc := 85) dX6_sheet_85 flX6_237 (hp_sheet (by omega)) rfl ?_
                refine xg_eq pk_us ?_
                exact xg_iret (pc := 88) dX6_sheet_88 rfl (cpR (by refine (if_pos ⟨c_4, by first | exact Or.inl c_8 | exact Or.inr (Or.inl c_14) | exact Or.inr (Or.inr (Or.inl c_20)) | exact Or.inr (Or.inr (Or.inr c_26))⟩).trans ((if_neg (Int32.not_lt.mpr c_37)).trans ((if_pos c_50).trans ?_)); rw [esn]; first | (rw [if_pos c_68]; rfl) | (rw [if_neg c_68]; rfl)))
              ·
                refine xg_iconst (v := 0) (pc := 71) dX6_sheet_71 (by decide) ?_
                refine xg_goto (pc := 72) (tgt := 76) dX6_sheet_72 (by decide) ?_
                refine xg_cvV (pc := 76) (h1 := hp (tri f0 f1 f2) (o.1, o.2.1, o.2.2.1, o.2.2.2.1, o.2.2.2.2.1, o.2.2.2.2.2.1, o.2.2.2.2.2.2.1, o.2.2.2.2.2.2.2.1, upd o.2.2.2.2.2.2.2.2.1 sn b, upd o.2.2.2.2.2.2.2.2.2.1 sn 0, va_up o.2.2.2.2.2.2.2.2.2.2 sn (zrL 40 (o.2.2.2.2.2.2.2.2.2.2 sn))) mf wf q) (M' := mX2_begin) dX6_sheet_76 lkX6_234 mcX2_begin (hp_sheet (by omega)) rfl (ev_X2_begin (by omega)) rfl rfl (Nat.le_of_ble_eq_true rfl) ?_
                refine xg_aload_n (pc := 79) dX6_sheet_79 rfl ?_
                refine xg_get (pc := 80) dX6_sheet_80 flX6_44 hp_0 rfl ?_
                refine xg_iload_n (pc := 83) dX6_sheet_83 rfl ?_
                refine xg_aald (pc := 84) (r := 53 + 2 * sn) sn dX6_sheet_84 hp_52 (by decide) rfl (by omega) (by decide) (if_pos (by omega)) ?_
                refine xg_get (pc := 85) dX6_sheet_85 flX6_237 (hp_sheet (by omega)) rfl ?_
                refine xg_eq pk_us ?_
                exact xg_iret (pc := 88) dX6_sheet_88 rfl (cpR (by refine (if_pos ⟨c_4, by first | exact Or.inl c_8 | exact Or.inr (Or.inl c_14) | exact Or.inr (Or.inr (Or.inl c_20)) | exact Or.inr (Or.inr (Or.inr c_26))⟩).trans ((if_neg (Int32.not_lt.mpr c_37)).trans ((if_pos c_50).trans ?_)); rw [esn]; first | (rw [if_pos c_68]; rfl) | (rw [if_neg c_68]; rfl)))
            ·
              refine xg_aload_n (pc := 53) dX6_sheet_53 rfl ?_
              refine xg_ldc (v := -1000000001) (pc := 54) dX6_sheet_54 ccX6_64 ?_
              refine xg_cvI (pc := 56) (h1 := hp (tri f0 f1 f2) (o.1, upd o.2.1 0 (o.2.1 0 + 1), o.2.2.1, o.2.2.2.1, o.2.2.2.2.1, o.2.2.2.2.2.1, o.2.2.2.2.2.2.1, o.2.2.2.2.2.2.2.1, o.2.2.2.2.2.2.2.2.1, o.2.2.2.2.2.2.2.2.2.1, o.2.2.2.2.2.2.2.2.2.2) mf wf q) (x := -1000000001) (M' := mX6_finding) dX6_sheet_56 lkX6_65 mcX6_finding hp_0 rfl (ev_X6_finding (j := 0) (by decide) (by decide)) rfl rfl (Nat.le_of_ble_eq_true rfl) ?_
              exact xg_iret (pc := 59) dX6_sheet_59 rfl (cpR (by exact (if_pos ⟨c_4, by first | exact Or.inl c_8 | exact Or.inr (Or.inl c_14) | exact Or.inr (Or.inr (Or.inl c_20)) | exact Or.inr (Or.inr (Or.inr c_26))⟩).trans ((if_neg (Int32.not_lt.mpr (Classical.not_not.mp (fun z => z c_37)))).trans (if_neg c_50))))
          ·
            refine xg_aload_n (pc := 40) dX6_sheet_40 rfl ?_
            refine xg_ldc (v := -1000000007) (pc := 41) dX6_sheet_41 ccX6_233 ?_
            refine xg_cvI (pc := 43) (h1 := hp (tri f0 f1 f2) (o.1, upd o.2.1 6 (o.2.1 6 + 1), o.2.2.1, o.2.2.2.1, o.2.2.2.2.1, o.2.2.2.2.2.1, o.2.2.2.2.2.2.1, o.2.2.2.2.2.2.2.1, o.2.2.2.2.2.2.2.2.1, o.2.2.2.2.2.2.2.2.2.1, o.2.2.2.2.2.2.2.2.2.2) mf wf q) (x := -1000000007) (M' := mX6_finding) dX6_sheet_43 lkX6_65 mcX6_finding hp_0 rfl (ev_X6_finding (j := 6) (by decide) (by decide)) rfl rfl (Nat.le_of_ble_eq_true rfl) ?_
            exact xg_iret (pc := 46) dX6_sheet_46 rfl (cpR (by exact (if_pos ⟨c_4, by first | exact Or.inl c_8 | exact Or.inr (Or.inl c_14) | exact Or.inr (Or.inr (Or.inl c_20)) | exact Or.inr (Or.inr (Or.inr c_26))⟩).trans (if_pos (Int32.not_le.mp c_37))))
        ·
          refine xg_iload_n (pc := 23) dX6_sheet_23 rfl ?_
          refine xg_bipush (v := 64) (pc := 24) dX6_sheet_24 (by decide) ?_
          refine xg_icmp_eq (pc := 26) (tgt := 36) dX6_sheet_26 (by decide) (fun c_26 => ?_) (fun c_26 => ?_)
          ·
            refine xg_iload_n (pc := 36) dX6_sheet_36 rfl ?_
            refine xg_if_ge (pc := 37) (tgt := 47) dX6_sheet_37 (by decide) (fun c_37 => ?_) (fun c_37 => ?_)
            ·
              refine xg_iload_n (pc := 47) dX6_sheet_47 rfl ?_
              refine xg_bipush (v := 40) (pc := 48) dX6_sheet_48 (by decide) ?_
              refine xg_icmp_le (pc := 50) (tgt := 60) dX6_sheet_50 (by decide) (fun c_50 => ?_) (fun c_50 => ?_)
              ·
                obtain ⟨sn, hsn, rfl⟩ := sheet_n c_4
                have esn : ix (nI sn) = sn := nI_clamp (by omega)
                refine xg_aload_n (pc := 60) dX6_sheet_60 rfl ?_
                refine xg_get (pc := 61) dX6_sheet_61 flX6_44 hp_0 rfl ?_
                refine xg_iload_n (pc := 64) dX6_sheet_64 rfl ?_
                refine xg_aald (pc := 65) (r := 53 + 2 * sn) sn dX6_sheet_65 hp_52 (by decide) rfl (by omega) (by decide) (if_pos (by omega)) ?_
                refine xg_iload_n (pc := 66) dX6_sheet_66 rfl ?_
                refine xg_iload_n (pc := 67) dX6_sheet_67 rfl ?_
                refine xg_if_ne (pc := 68) (tgt := 75) dX6_sheet_68 (by decide) (fun c_68 => ?_) (fun c_68 => ?_)
                ·
                  refine xg_iload_n (pc := 75) dX6_sheet_75 rfl ?_
                  refine xg_cvV (pc := 76) (h1 := hp (tri f0 f1 f2) (o.1, o.2.1, o.2.2.1, o.2.2.2.1, o.2.2.2.2.1, o.2.2.2.2.2.1, o.2.2.2.2.2.2.1, o.2.2.2.2.2.2.2.1, upd o.2.2.2.2.2.2.2.2.1 sn b, upd o.2.2.2.2.2.2.2.2.2.1 sn n, va_up o.2.2.2.2.2.2.2.2.2.2 sn (zrL 40 (o.2.2.2.2.2.2.2.2.2.2 sn))) mf wf q) (M' := mX2_begin) dX6_sheet_76 lkX6_234 mcX2_begin (hp_sheet (by omega)) rfl (ev_X2_begin (by omega)) rfl rfl (Nat.le_of_ble_eq_true rfl) ?_
                  refine xg_aload_n (pc := 79) dX6_sheet_79 rfl ?_
                  refine xg_get (pc := 80) dX6_sheet_80 flX6_44 hp_0 rfl ?_
                  refine xg_iload_n (pc := 83) dX6_sheet_83 rfl ?_
                  refine xg_aald (pc := 84) (r := 53 + 2 * sn) sn dX6_sheet_84 hp_52 (by decide) rfl (by omega) (by decide) (if_pos (by omega)) ?_
                  refine xg_get (pc := 85) dX6_sheet_85 flX6_237 (hp_sheet (by omega)) rfl ?_
                  refine xg_eq pk_us ?_
                  exact xg_iret (pc := 88) dX6_sheet_88 rfl (cpR (by refine (if_pos ⟨c_4, by first | exact Or.inl c_8 | exact Or.inr (Or.inl c_14) | exact Or.inr (Or.inr (Or.inl c_20)) | exact Or.inr (Or.inr (Or.inr c_26))⟩).trans ((if_neg (Int32.not_lt.mpr c_37)).trans ((if_pos c_50).trans ?_)); rw [esn]; first | (rw [if_pos c_68]; rfl) | (rw [if_neg c_68]; rfl)))
                ·
                  refine xg_iconst (v := 0) (pc := 71) dX6_sheet_71 (by decide) ?_
                  refine xg_goto (pc := 72) (tgt := 76) dX6_sheet_72 (by decide) ?_
                  refine xg_cvV (pc := 76) (h1 := hp (tri f0 f1 f2) (o.1, o.2.1, o.2.2.1, o.2.2.2.1, o.2.2.2.2.1, o.2.2.2.2.2.1, o.2.2.2.2.2.2.1, o.2.2.2.2.2.2.2.1, upd o.2.2.2.2.2.2.2.2.1 sn b, upd o.2.2.2.2.2.2.2.2.2.1 sn 0, va_up o.2.2.2.2.2.2.2.2.2.2 sn (zrL 40 (o.2.2.2.2.2.2.2.2.2.2 sn))) mf wf q) (M' := mX2_begin) dX6_sheet_76 lkX6_234 mcX2_begin (hp_sheet (by omega)) rfl (ev_X2_begin (by omega)) rfl rfl (Nat.le_of_ble_eq_true rfl) ?_
                  refine xg_aload_n (pc := 79) dX6_sheet_79 rfl ?_
                  refine xg_get (pc := 80) dX6_sheet_80 flX6_44 hp_0 rfl ?_
                  refine xg_iload_n (pc := 83) dX6_sheet_83 rfl ?_
                  refine xg_aald (pc := 84) (r := 53 + 2 * sn) sn dX6_sheet_84 hp_52 (by decide) rfl (by omega) (by decide) (if_pos (by omega)) ?_
                  refine xg_get (pc := 85) dX6_sheet_85 flX6_237 (hp_sheet (by omega)) rfl ?_
                  refine xg_eq pk_us ?_
                  exact xg_iret (pc := 88) dX6_sheet_88 rfl (cpR (by refine (if_pos ⟨c_4, by first | exact Or.inl c_8 | exact Or.inr (Or.inl c_14) | exact Or.inr (Or.inr (Or.inl c_20)) | exact Or.inr (Or.inr (Or.inr c_26))⟩).trans ((if_neg (Int32.not_lt.mpr c_37)).trans ((if_pos c_50).trans ?_)); rw [esn]; first | (rw [if_pos c_68]; rfl) | (rw [if_neg c_68]; rfl)))
              ·
                refine xg_aload_n (pc := 53) dX6_sheet_53 rfl ?_
                refine xg_ldc (v := -1000000001) (pc := 54) dX6_sheet_54 ccX6_64 ?_
                refine xg_cvI (pc := 56) (h1 := hp (tri f0 f1 f2) (o.1, upd o.2.1 0 (o.2.1 0 + 1), o.2.2.1, o.2.2.2.1, o.2.2.2.2.1, o.2.2.2.2.2.1, o.2.2.2.2.2.2.1, o.2.2.2.2.2.2.2.1, o.2.2.2.2.2.2.2.2.1, o.2.2.2.2.2.2.2.2.2.1, o.2.2.2.2.2.2.2.2.2.2) mf wf q) (x := -1000000001) (M' := mX6_finding) dX6_sheet_56 lkX6_65 mcX6_finding hp_0 rfl (ev_X6_finding (j := 0) (by decide) (by decide)) rfl rfl (Nat.le_of_ble_eq_true rfl) ?_
                exact xg_iret (pc := 59) dX6_sheet_59 rfl (cpR (by exact (if_pos ⟨c_4, by first | exact Or.inl c_8 | exact Or.inr (Or.inl c_14) | exact Or.inr (Or.inr (Or.inl c_20)) | exact Or.inr (Or.inr (Or.inr c_26))⟩).trans ((if_neg (Int32.not_lt.mpr (Classical.not_not.mp (fun z => z c_37)))).trans (if_neg c_50))))
            ·
              refine xg_aload_n (pc := 40) dX6_sheet_40 rfl ?_
              refine xg_ldc (v := -1000000007) (pc := 41) dX6_sheet_41 ccX6_233 ?_
              refine xg_cvI (pc := 43) (h1 := hp (tri f0 f1 f2) (o.1, upd o.2.1 6 (o.2.1 6 + 1), o.2.2.1, o.2.2.2.1, o.2.2.2.2.1, o.2.2.2.2.2.1, o.2.2.2.2.2.2.1, o.2.2.2.2.2.2.2.1, o.2.2.2.2.2.2.2.2.1, o.2.2.2.2.2.2.2.2.2.1, o.2.2.2.2.2.2.2.2.2.2) mf wf q) (x := -1000000007) (M' := mX6_finding) dX6_sheet_43 lkX6_65 mcX6_finding hp_0 rfl (ev_X6_finding (j := 6) (by decide) (by decide)) rfl rfl (Nat.le_of_ble_eq_true rfl) ?_
              exact xg_iret (pc := 46) dX6_sheet_46 rfl (cpR (by exact (if_pos ⟨c_4, by first | exact Or.inl c_8 | exact Or.inr (Or.inl c_14) | exact Or.inr (Or.inr (Or.inl c_20)) | exact Or.inr (Or.inr (Or.inr c_26))⟩).trans (if_pos (Int32.not_le.mp c_37))))
          ·
            refine xg_aload_n (pc := 29) dX6_sheet_29 rfl ?_
            refine xg_ldc (v := -1000000001) (pc := 30) dX6_sheet_30 ccX6_64 ?_
            refine xg_cvI (pc := 32) (h1 := hp (tri f0 f1 f2) (o.1, upd o.2.1 0 (o.2.1 0 + 1), o.2.2.1, o.2.2.2.1, o.2.2.2.2.1, o.2.2.2.2.2.1, o.2.2.2.2.2.2.1, o.2.2.2.2.2.2.2.1, o.2.2.2.2.2.2.2.2.1, o.2.2.2.2.2.2.2.2.2.1, o.2.2.2.2.2.2.2.2.2.2) mf wf q) (x := -1000000001) (M' := mX6_finding) dX6_sheet_32 lkX6_65 mcX6_finding hp_0 rfl (ev_X6_finding (j := 0) (by decide) (by decide)) rfl rfl (Nat.le_of_ble_eq_true rfl) ?_
            exact xg_iret (pc := 35) dX6_sheet_35 rfl (cpR (by exact if_neg (fun q => q.2.elim c_8 (fun q => q.elim c_14 (fun q => q.elim c_20 c_26)))))
set_option maxRecDepth 100000 in
set_option maxHeartbeats 4000000 in
theorem ev_X6_write {s i : Int32} {v : Int64} (okz : okS (oZ o)) : xEv X false (d + 2) 0 0 mX6_write [.ref 0, .int s, .int i, .long v] (hp (tri f0 f1 f2) o mf wf q) (CP mf wf q (c_write o f0 f2 s i v)) := by
  refine xEv.of (ls := [some (.ref 0), some (.int s), some (.int i), some (.long v), none, none, none]) mcX6_write.1.2.2.2.2 (Nat.le_of_ble_eq_true rfl) rfl ?_
  refine xg_iload_n (pc := 0) dX6_write_0 rfl ?_
  refine xg_csI (pc := 1) (h1 := hp (tri f0 f1 f2) o mf wf q) (x := if 0 ≤ s ∧ s ≤ 3 then 1 else 0) (M' := mX6_isSheet) dX6_write_1 lkX6_230 mcX6_isSheet (ev_X6_isSheet) rfl rfl (Nat.le_of_ble_eq_true rfl) ?_
  refine xg_bnz (pc := 4) (tgt := 15) dX6_write_4 (by decide) (fun c_4 => ?_) (fun c_4 => ?_)
  ·
    obtain ⟨sn, hsn, rfl⟩ := sheet_n c_4
    have esn : ix (nI sn) = sn := nI_clamp (by omega)
    have hz0 := okz sn (by omega)
    refine xg_aload_n (pc := 15) dX6_write_15 rfl ?_
    refine xg_get (pc := 16) dX6_write_16 flX6_44 hp_0 rfl ?_
    refine xg_iload_n (pc := 19) dX6_write_19 rfl ?_
    refine xg_aald (pc := 20) (r := 53 + 2 * sn) sn dX6_write_20 hp_52 (by decide) rfl (by omega) (by decide) (if_pos (by omega)) ?_
    refine xg_cvI (pc := 21) (h1 := hp (tri f0 f1 f2) o mf wf q) (x := if o.2.2.2.2.2.2.2.2.1 sn = 0 then 1 else 0) (M' := mX2_isMissing) dX6_write_21 lkX6_240 mcX2_isMissing (hp_sheet (by omega)) rfl (ev_X2_isMissing (by omega)) rfl rfl (Nat.le_of_ble_eq_true rfl) ?_
    refine xg_bz (pc := 24) (tgt := 35) dX6_write_24 (by decide) (fun c_24 => ?_) (fun c_24 => ?_)
    ·
      refine xg_iload_n (pc := 35) dX6_write_35 rfl ?_
      refine xg_if_lt (pc := 36) (tgt := 52) dX6_write_36 (by decide) (fun c_36 => ?_) (fun c_36 => ?_)
      ·
        refine xg_aload_n (pc := 52) dX6_write_52 rfl ?_
        refine xg_ldc (v := -1000000001) (pc := 53) dX6_write_53 ccX6_64 ?_
        refine xg_cvI (pc := 55) (h1 := hp (tri f0 f1 f2) (o.1, upd o.2.1 0 (o.2.1 0 + 1), o.2.2.1, o.2.2.2.1, o.2.2.2.2.1, o.2.2.2.2.2.1, o.2.2.2.2.2.2.1, o.2.2.2.2.2.2.2.1, o.2.2.2.2.2.2.2.2.1, o.2.2.2.2.2.2.2.2.2.1, o.2.2.2.2.2.2.2.2.2.2) mf wf q) (x := -1000000001) (M' := mX6_finding) dX6_write_55 lkX6_65 mcX6_finding hp_0 rfl (ev_X6_finding (j := 0) (by decide) (by decide)) rfl rfl (Nat.le_of_ble_eq_true rfl) ?_
        refine xg_i2l (pc := 58) dX6_write_58 ?_
        exact xg_lret (pc := 59) dX6_write_59 rfl (cpR (by refine (if_pos c_4).trans ((if_neg (by rw [esn]; exact c_24)).trans ((if_neg (by rw [esn]; exact (fun q => Int32.not_lt.mpr q.1 c_36))).trans rfl))))
      ·
        refine xg_iload_n (pc := 39) dX6_write_39 rfl ?_
        refine xg_aload_n (pc := 40) dX6_write_40 rfl ?_
        refine xg_get (pc := 41) dX6_write_41 flX6_44 hp_0 rfl ?_
        refine xg_iload_n (pc := 44) dX6_write_44 rfl ?_
        refine xg_aald (pc := 45) (r := 53 + 2 * sn) sn dX6_write_45 hp_52 (by decide) rfl (by omega) (by decide) (if_pos (by omega)) ?_
        refine xg_get (pc := 46) dX6_write_46 flX6_237 (hp_sheet (by omega)) rfl ?_
        refine xg_icmp_lt (pc := 49) (tgt := 60) dX6_write_49 (by decide) (fun c_49 => ?_) (fun c_49 => ?_)
        ·
          obtain ⟨in_, hin_, rfl⟩ := num_n ⟨Int32.not_lt.mp c_36, c_49⟩ hz0.1 hz0.2
          have ein_ : ix (nI in_) = in_ := nI_clamp (by omega)
          refine xg_aload_n (pc := 60) dX6_write_60 rfl ?_
          refine xg_get (pc := 61) dX6_write_61 flX6_44 hp_0 rfl ?_
          refine xg_iload_n (pc := 64) dX6_write_64 rfl ?_
          refine xg_aald (pc := 65) (r := 53 + 2 * sn) sn dX6_write_65 hp_52 (by decide) rfl (by omega) (by decide) (if_pos (by omega)) ?_
          refine xg_get (pc := 66) dX6_write_66 flX6_245 (hp_sheet (by omega)) rfl ?_
          refine xg_iload_n (pc := 69) dX6_write_69 rfl ?_
          refine xg_lald (pc := 70) in_ dX6_write_70 (hp_nums (by omega)) rfl (by omega) (by decide) ?_
          refine xg_lstore (pc := 71) (ls' := [some (.ref 0), some (.int (nI sn)), some (.int (nI in_)), some (.long v), none, some (.long (o.2.2.2.2.2.2.2.2.2.2 sn in_)), none]) dX6_write_71 (by decide) rfl ?_
          refine xg_aload_n (pc := 73) dX6_write_73 rfl ?_
          refine xg_get (pc := 74) dX6_write_74 flX6_44 hp_0 rfl ?_
          refine xg_iload_n (pc := 77) dX6_write_77 rfl ?_
          refine xg_aald (pc := 78) (r := 53 + 2 * sn) sn dX6_write_78 hp_52 (by decide) rfl (by omega) (by decide) (if_pos (by omega)) ?_
          refine xg_iload_n (pc := 79) dX6_write_79 rfl ?_
          refine xg_lload_n (pc := 80) dX6_write_80 rfl ?_
          refine xg_cvV (pc := 81) (h1 := hp (tri f0 f1 f2) (o.1, o.2.1, o.2.2.1, o.2.2.2.1, o.2.2.2.2.1, o.2.2.2.2.2.1, o.2.2.2.2.2.2.1, o.2.2.2.2.2.2.2.1, o.2.2.2.2.2.2.2.2.1, o.2.2.2.2.2.2.2.2.2.1, va_up o.2.2.2.2.2.2.2.2.2.2 sn (vp_updL (o.2.2.2.2.2.2.2.2.2.2 sn) in_ (cut (o.2.2.2.2.2.2.2.2.1 sn) v))) mf wf q) (M' := mX2_put) dX6_write_81 lkX6_249 mcX2_put (hp_sheet (by omega)) rfl (ev_X2_put (i := in_) (by omega) hz0.1 hin_ hz0.2) rfl rfl (Nat.le_of_ble_eq_true rfl) ?_
          refine xg_lload (pc := 84) dX6_write_84 rfl ?_
          exact xg_lret (pc := 86) dX6_write_86 rfl (cpR (by refine (if_pos c_4).trans ((if_neg (by rw [esn]; exact c_24)).trans ((if_pos (by rw [esn]; exact ⟨Int32.not_lt.mp c_36, c_49⟩)).trans ?_)); rw [esn, ein_]; rfl))
        ·
          refine xg_aload_n (pc := 52) dX6_write_52 rfl ?_
          refine xg_ldc (v := -1000000001) (pc := 53) dX6_write_53 ccX6_64 ?_
          refine xg_cvI (pc := 55) (h1 := hp (tri f0 f1 f2) (o.1, upd o.2.1 0 (o.2.1 0 + 1), o.2.2.1, o.2.2.2.1, o.2.2.2.2.1, o.2.2.2.2.2.1, o.2.2.2.2.2.2.1, o.2.2.2.2.2.2.2.1, o.2.2.2.2.2.2.2.2.1, o.2.2.2.2.2.2.2.2.2.1, o.2.2.2.2.2.2.2.2.2.2) mf wf q) (x := -1000000001) (M' := mX6_finding) dX6_write_55 lkX6_65 mcX6_finding hp_0 rfl (ev_X6_finding (j := 0) (by decide) (by decide)) rfl rfl (Nat.le_of_ble_eq_true rfl) ?_
          refine xg_i2l (pc := 58) dX6_write_58 ?_
          exact xg_lret (pc := 59) dX6_write_59 rfl (cpR (by refine (if_pos c_4).trans ((if_neg (by rw [esn]; exact c_24)).trans ((if_neg (by rw [esn]; exact (fun q => c_49 q.2))).trans rfl))))
    ·
      refine xg_aload_n (pc := 27) dX6_write_27 rfl ?_
      refine xg_ldc (v := -1000000006) (pc := 28) dX6_write_28 ccX6_244 ?_
      refine xg_cvI (pc := 30) (h1 := hp (tri f0 f1 f2) (o.1, upd o.2.1 5 (o.2.1 5 + 1), o.2.2.1, o.2.2.2.1, o.2.2.2.2.1, o.2.2.2.2.2.1, o.2.2.2.2.2.2.1, o.2.2.2.2.2.2.2.1, o.2.2.2.2.2.2.2.2.1, o.2.2.2.2.2.2.2.2.2.1, o.2.2.2.2.2.2.2.2.2.2) mf wf q) (x := -1000000006) (M' := mX6_finding) dX6_write_30 lkX6_65 mcX6_finding hp_0 rfl (ev_X6_finding (j := 5) (by decide) (by decide)) rfl rfl (Nat.le_of_ble_eq_true rfl) ?_
      refine xg_i2l (pc := 33) dX6_write_33 ?_
      exact xg_lret (pc := 34) dX6_write_34 rfl (cpR (by refine (if_pos c_4).trans ((if_pos (by rw [esn]; exact c_24)).trans rfl)))
  ·
    refine xg_aload_n (pc := 7) dX6_write_7 rfl ?_
    refine xg_ldc (v := -1000000001) (pc := 8) dX6_write_8 ccX6_64 ?_
    refine xg_cvI (pc := 10) (h1 := hp (tri f0 f1 f2) (o.1, upd o.2.1 0 (o.2.1 0 + 1), o.2.2.1, o.2.2.2.1, o.2.2.2.2.1, o.2.2.2.2.2.1, o.2.2.2.2.2.2.1, o.2.2.2.2.2.2.2.1, o.2.2.2.2.2.2.2.2.1, o.2.2.2.2.2.2.2.2.2.1, o.2.2.2.2.2.2.2.2.2.2) mf wf q) (x := -1000000001) (M' := mX6_finding) dX6_write_10 lkX6_65 mcX6_finding hp_0 rfl (ev_X6_finding (j := 0) (by decide) (by decide)) rfl rfl (Nat.le_of_ble_eq_true rfl) ?_
    refine xg_i2l (pc := 13) dX6_write_13 ?_
    exact xg_lret (pc := 14) dX6_write_14 rfl (cpR (by exact if_neg c_4))
set_option maxRecDepth 100000 in
set_option maxHeartbeats 4000000 in
theorem ev_X6_copy {s a t b n : Int32} (okz : okS (oZ o)) : xEv X false (d + 2) 0 0 mX6_copy [.ref 0, .int s, .int a, .int t, .int b, .int n] (hp (tri f0 f1 f2) o mf wf q) (CP mf wf q (c_copy o f0 f2 s a t b n)) := by
  refine xEv.of (ls := [some (.ref 0), some (.int s), some (.int a), some (.int t), some (.int b), some (.int n), none, none]) mcX6_copy.1.2.2.2.2 (Nat.le_of_ble_eq_true rfl) rfl ?_
  refine xg_iload_n (pc := 0) dX6_copy_0 rfl ?_
  refine xg_csI (pc := 1) (h1 := hp (tri f0 f1 f2) o mf wf q) (x := if 0 ≤ s ∧ s ≤ 3 then 1 else 0) (M' := mX6_isSheet) dX6_copy_1 lkX6_230 mcX6_isSheet (ev_X6_isSheet) rfl rfl (Nat.le_of_ble_eq_true rfl) ?_
  refine xg_bz (pc := 4) (tgt := 14) dX6_copy_4 (by decide) (fun c_4 => ?_) (fun c_4 => ?_)
  ·
    refine xg_aload_n (pc := 14) dX6_copy_14 rfl ?_
    refine xg_ldc (v := -1000000001) (pc := 15) dX6_copy_15 ccX6_64 ?_
    refine xg_cvI (pc := 17) (h1 := hp (tri f0 f1 f2) (o.1, upd o.2.1 0 (o.2.1 0 + 1), o.2.2.1, o.2.2.2.1, o.2.2.2.2.1, o.2.2.2.2.2.1, o.2.2.2.2.2.2.1, o.2.2.2.2.2.2.2.1, o.2.2.2.2.2.2.2.2.1, o.2.2.2.2.2.2.2.2.2.1, o.2.2.2.2.2.2.2.2.2.2) mf wf q) (x := -1000000001) (M' := mX6_finding) dX6_copy_17 lkX6_65 mcX6_finding hp_0 rfl (ev_X6_finding (j := 0) (by decide) (by decide)) rfl rfl (Nat.le_of_ble_eq_true rfl) ?_
    exact xg_iret (pc := 20) dX6_copy_20 rfl (cpR (by exact if_neg (fun q => c_4 q.1)))
  ·
    refine xg_iload_n (pc := 7) dX6_copy_7 rfl ?_
    refine xg_csI (pc := 8) (h1 := hp (tri f0 f1 f2) o mf wf q) (x := if 0 ≤ t ∧ t ≤ 3 then 1 else 0) (M' := mX6_isSheet) dX6_copy_8 lkX6_230 mcX6_isSheet (ev_X6_isSheet) rfl rfl (Nat.le_of_ble_eq_true rfl) ?_
    refine xg_bnz (pc := 11) (tgt := 21) dX6_copy_11 (by decide) (fun c_11 => ?_) (fun c_11 => ?_)
    ·
      obtain ⟨sn, hsn, rfl⟩ := sheet_n c_4
      have esn : ix (nI sn) = sn := nI_clamp (by omega)
      obtain ⟨tn, htn, rfl⟩ := sheet_n c_11
      have etn : ix (nI tn) = tn := nI_clamp (by omega)
      have hz0 := okz sn (by omega)
      have hz1 := okz tn (by omega)
      refine xg_aload_n (pc := 21) dX6_copy_21 rfl ?_
      refine xg_get (pc := 22) dX6_copy_22 flX6_44 hp_0 rfl ?_
      refine xg_iload_n (pc := 25) dX6_copy_25 rfl ?_
      refine xg_aald (pc := 26) (r := 53 + 2 * sn) sn dX6_copy_26 hp_52 (by decide) rfl (by omega) (by decide) (if_pos (by omega)) ?_
      refine xg_astore (pc := 27) (ls' := [some (.ref 0), some (.int (nI sn)), some (.int a), some (.int (nI tn)), some (.int b), some (.int n), some (.ref (53 + 2 * sn)), none]) dX6_copy_27 (by decide) rfl ?_
      refine xg_aload_n (pc := 29) dX6_copy_29 rfl ?_
      refine xg_get (pc := 30) dX6_copy_30 flX6_44 hp_0 rfl ?_
      refine xg_iload_n (pc := 33) dX6_copy_33 rfl ?_
      refine xg_aald (pc := 34) (r := 53 + 2 * tn) tn dX6_copy_34 hp_52 (by decide) rfl (by omega) (by decide) (if_pos (by omega)) ?_
      refine xg_astore (pc := 35) (ls' := [some (.ref 0), some (.int (nI sn)), some (.int a), some (.int (nI tn)), some (.int b), some (.int n), some (.ref (53 + 2 * sn)), some (.ref (53 + 2 * tn))]) dX6_copy_35 (by decide) rfl ?_
      refine xg_aload (pc := 37) dX6_copy_37 rfl ?_
      refine xg_cvI (pc := 39) (h1 := hp (tri f0 f1 f2) o mf wf q) (x := if o.2.2.2.2.2.2.2.2.1 sn = 0 then 1 else 0) (M' := mX2_isMissing) dX6_copy_39 lkX6_240 mcX2_isMissing (hp_sheet (by omega)) rfl (ev_X2_isMissing (by omega)) rfl rfl (Nat.le_of_ble_eq_true rfl) ?_
      refine xg_bnz (pc := 42) (tgt := 53) dX6_copy_42 (by decide) (fun c_42 => ?_) (fun c_42 => ?_)
      ·
        refine xg_aload_n (pc := 53) dX6_copy_53 rfl ?_
        refine xg_ldc (v := -1000000006) (pc := 54) dX6_copy_54 ccX6_244 ?_
        refine xg_cvI (pc := 56) (h1 := hp (tri f0 f1 f2) (o.1, upd o.2.1 5 (o.2.1 5 + 1), o.2.2.1, o.2.2.2.1, o.2.2.2.2.1, o.2.2.2.2.2.1, o.2.2.2.2.2.2.1, o.2.2.2.2.2.2.2.1, o.2.2.2.2.2.2.2.2.1, o.2.2.2.2.2.2.2.2.2.1, o.2.2.2.2.2.2.2.2.2.2) mf wf q) (x := -1000000006) (M' := mX6_finding) dX6_copy_56 lkX6_65 mcX6_finding hp_0 rfl (ev_X6_finding (j := 5) (by decide) (by decide)) rfl rfl (Nat.le_of_ble_eq_true rfl) ?_
        exact xg_iret (pc := 59) dX6_copy_59 rfl (cpR (by refine (if_pos ⟨c_4, c_11⟩).trans ?_; rw [esn, etn]; exact if_pos (Or.inl c_42)))
      ·
        refine xg_aload (pc := 45) dX6_copy_45 rfl ?_
        refine xg_cvI (pc := 47) (h1 := hp (tri f0 f1 f2) o mf wf q) (x := if o.2.2.2.2.2.2.2.2.1 tn = 0 then 1 else 0) (M' := mX2_isMissing) dX6_copy_47 lkX6_240 mcX2_isMissing (hp_sheet (by omega)) rfl (ev_X2_isMissing (by omega)) rfl rfl (Nat.le_of_ble_eq_true rfl) ?_
        refine xg_bz (pc := 50) (tgt := 60) dX6_copy_50 (by decide) (fun c_50 => ?_) (fun c_50 => ?_)
        ·
          refine xg_aload (pc := 60) dX6_copy_60 rfl ?_
          refine xg_get (pc := 62) dX6_copy_62 flX6_253 (hp_sheet (by omega)) rfl ?_
          refine xg_aload (pc := 65) dX6_copy_65 rfl ?_
          refine xg_get (pc := 67) dX6_copy_67 flX6_253 (hp_sheet (by omega)) rfl ?_
          refine xg_icmp_eq (pc := 70) (tgt := 80) dX6_copy_70 (by decide) (fun c_70 => ?_) (fun c_70 => ?_)
          ·
            refine xg_aload (pc := 80) dX6_copy_80 rfl ?_
            refine xg_iload_n (pc := 82) dX6_copy_82 rfl ?_
            refine xg_iload (pc := 83) dX6_copy_83 rfl ?_
            refine xg_cvI (pc := 85) (h1 := hp (tri f0 f1 f2) o mf wf q) (x := if rgC a n (o.2.2.2.2.2.2.2.2.2.1 sn) then 1 else 0) (M' := mX2_hasRange) dX6_copy_85 lkX6_256 mcX2_hasRange (hp_sheet (by omega)) rfl (ev_X2_hasRange (by omega)) rfl rfl (Nat.le_of_ble_eq_true rfl) ?_
            refine xg_bz (pc := 88) (tgt := 103) dX6_copy_88 (by decide) (fun c_88 => ?_) (fun c_88 => ?_)
            ·
              refine xg_aload_n (pc := 103) dX6_copy_103 rfl ?_
              refine xg_ldc (v := -1000000001) (pc := 104) dX6_copy_104 ccX6_64 ?_
              refine xg_cvI (pc := 106) (h1 := hp (tri f0 f1 f2) (o.1, upd o.2.1 0 (o.2.1 0 + 1), o.2.2.1, o.2.2.2.1, o.2.2.2.2.1, o.2.2.2.2.2.1, o.2.2.2.2.2.2.1, o.2.2.2.2.2.2.2.1, o.2.2.2.2.2.2.2.2.1, o.2.2.2.2.2.2.2.2.2.1, o.2.2.2.2.2.2.2.2.2.2) mf wf q) (x := -1000000001) (M' := mX6_finding) dX6_copy_106 lkX6_65 mcX6_finding hp_0 rfl (ev_X6_finding (j := 0) (by decide) (by decide)) rfl rfl (Nat.le_of_ble_eq_true rfl) ?_
              exact xg_iret (pc := 109) dX6_copy_109 rfl (cpR (by refine (if_pos ⟨c_4, c_11⟩).trans ?_; rw [esn, etn]; refine (if_neg (fun q => q.elim c_42 c_50)).trans ?_; refine (if_pos c_70).trans ?_; exact if_neg (fun q => c_88 q.1)))
            ·
              refine xg_aload (pc := 91) dX6_copy_91 rfl ?_
              refine xg_iload (pc := 93) dX6_copy_93 rfl ?_
              refine xg_iload (pc := 95) dX6_copy_95 rfl ?_
              refine xg_cvI (pc := 97) (h1 := hp (tri f0 f1 f2) o mf wf q) (x := if rgC b n (o.2.2.2.2.2.2.2.2.2.1 tn) then 1 else 0) (M' := mX2_hasRange) dX6_copy_97 lkX6_256 mcX2_hasRange (hp_sheet (by omega)) rfl (ev_X2_hasRange (by omega)) rfl rfl (Nat.le_of_ble_eq_true rfl) ?_
              refine xg_bnz (pc := 100) (tgt := 110) dX6_copy_100 (by decide) (fun c_100 => ?_) (fun c_100 => ?_)
              ·
                obtain ⟨an, nn, han, rfl, rfl⟩ := rg_n c_88 hz0.1 hz0.2
                obtain ⟨bn, nn2, hbn, rfl, e2⟩ := rg_n c_100 hz1.1 hz1.2
                have hz2 := hz0.2
                have hz3 := hz1.2
                have e3 : nn = nn2 := (nI_eq (by omega) (by omega)).mp e2
                subst e3
                have ean : ix (nI an) = an := nI_clamp (by omega)
                have ebn : ix (nI bn) = bn := nI_clamp (by omega)
                have enn : ix (nI nn) = nn := nI_clamp (by omega)
                refine xg_aload (pc := 110) dX6_copy_110 rfl ?_
                refine xg_get (pc := 112) dX6_copy_112 flX6_245 (hp_sheet (by omega)) rfl ?_
                refine xg_iload_n (pc := 115) dX6_copy_115 rfl ?_
                refine xg_aload (pc := 116) dX6_copy_116 rfl ?_
                refine xg_get (pc := 118) dX6_copy_118 flX6_245 (hp_sheet (by omega)) rfl ?_
                refine xg_iload (pc := 121) dX6_copy_121 rfl ?_
                refine xg_iload (pc := 123) dX6_copy_123 rfl ?_
                refine xg_copyl (pc := 125) (h2 := hp (tri f0 f1 f2) (o.1, o.2.1, o.2.2.1, o.2.2.2.1, o.2.2.2.2.1, o.2.2.2.2.2.1, o.2.2.2.2.2.2.1, o.2.2.2.2.2.2.2.1, o.2.2.2.2.2.2.2.2.1, o.2.2.2.2.2.2.2.2.2.1, va_up o.2.2.2.2.2.2.2.2.2.2 tn (va_cpy (o.2.2.2.2.2.2.2.2.2.2 sn) (o.2.2.2.2.2.2.2.2.2.2 tn) an bn nn)) mf wf q) an bn nn dX6_copy_125 lkX6_260 mm_arraycopy (hp_nums (by omega)) (hp_nums (by omega)) rfl rfl rfl (by omega) (by omega) (by decide) (by decide) (Nat.le_of_ble_eq_true rfl) (hs_sn (by omega)) ?_
                refine xg_iload (pc := 128) dX6_copy_128 rfl ?_
                exact xg_iret (pc := 130) dX6_copy_130 rfl (cpR (by refine (if_pos ⟨c_4, c_11⟩).trans ?_; rw [esn, etn]; refine (if_neg (fun q => q.elim c_42 c_50)).trans ?_; refine (if_pos c_70).trans ?_; refine (if_pos ⟨c_88, c_100⟩).trans ?_; rw [ean, ebn, enn]; rfl))
              ·
                refine xg_aload_n (pc := 103) dX6_copy_103 rfl ?_
                refine xg_ldc (v := -1000000001) (pc := 104) dX6_copy_104 ccX6_64 ?_
                refine xg_cvI (pc := 106) (h1 := hp (tri f0 f1 f2) (o.1, upd o.2.1 0 (o.2.1 0 + 1), o.2.2.1, o.2.2.2.1, o.2.2.2.2.1, o.2.2.2.2.2.1, o.2.2.2.2.2.2.1, o.2.2.2.2.2.2.2.1, o.2.2.2.2.2.2.2.2.1, o.2.2.2.2.2.2.2.2.2.1, o.2.2.2.2.2.2.2.2.2.2) mf wf q) (x := -1000000001) (M' := mX6_finding) dX6_copy_106 lkX6_65 mcX6_finding hp_0 rfl (ev_X6_finding (j := 0) (by decide) (by decide)) rfl rfl (Nat.le_of_ble_eq_true rfl) ?_
                exact xg_iret (pc := 109) dX6_copy_109 rfl (cpR (by refine (if_pos ⟨c_4, c_11⟩).trans ?_; rw [esn, etn]; refine (if_neg (fun q => q.elim c_42 c_50)).trans ?_; refine (if_pos c_70).trans ?_; exact if_neg (fun q => c_100 q.2)))
          ·
            refine xg_aload_n (pc := 73) dX6_copy_73 rfl ?_
            refine xg_ldc (v := -1000000003) (pc := 74) dX6_copy_74 ccX6_139 ?_
            refine xg_cvI (pc := 76) (h1 := hp (tri f0 f1 f2) (o.1, upd o.2.1 2 (o.2.1 2 + 1), o.2.2.1, o.2.2.2.1, o.2.2.2.2.1, o.2.2.2.2.2.1, o.2.2.2.2.2.2.1, o.2.2.2.2.2.2.2.1, o.2.2.2.2.2.2.2.2.1, o.2.2.2.2.2.2.2.2.2.1, o.2.2.2.2.2.2.2.2.2.2) mf wf q) (x := -1000000003) (M' := mX6_finding) dX6_copy_76 lkX6_65 mcX6_finding hp_0 rfl (ev_X6_finding (j := 2) (by decide) (by decide)) rfl rfl (Nat.le_of_ble_eq_true rfl) ?_
            exact xg_iret (pc := 79) dX6_copy_79 rfl (cpR (by refine (if_pos ⟨c_4, c_11⟩).trans ?_; rw [esn, etn]; refine (if_neg (fun q => q.elim c_42 c_50)).trans ?_; exact if_neg c_70))
        ·
          refine xg_aload_n (pc := 53) dX6_copy_53 rfl ?_
          refine xg_ldc (v := -1000000006) (pc := 54) dX6_copy_54 ccX6_244 ?_
          refine xg_cvI (pc := 56) (h1 := hp (tri f0 f1 f2) (o.1, upd o.2.1 5 (o.2.1 5 + 1), o.2.2.1, o.2.2.2.1, o.2.2.2.2.1, o.2.2.2.2.2.1, o.2.2.2.2.2.2.1, o.2.2.2.2.2.2.2.1, o.2.2.2.2.2.2.2.2.1, o.2.2.2.2.2.2.2.2.2.1, o.2.2.2.2.2.2.2.2.2.2) mf wf q) (x := -1000000006) (M' := mX6_finding) dX6_copy_56 lkX6_65 mcX6_finding hp_0 rfl (ev_X6_finding (j := 5) (by decide) (by decide)) rfl rfl (Nat.le_of_ble_eq_true rfl) ?_
          exact xg_iret (pc := 59) dX6_copy_59 rfl (cpR (by refine (if_pos ⟨c_4, c_11⟩).trans ?_; rw [esn, etn]; exact if_pos (Or.inr c_50)))
    ·
      refine xg_aload_n (pc := 14) dX6_copy_14 rfl ?_
      refine xg_ldc (v := -1000000001) (pc := 15) dX6_copy_15 ccX6_64 ?_
      refine xg_cvI (pc := 17) (h1 := hp (tri f0 f1 f2) (o.1, upd o.2.1 0 (o.2.1 0 + 1), o.2.2.1, o.2.2.2.1, o.2.2.2.2.1, o.2.2.2.2.2.1, o.2.2.2.2.2.2.1, o.2.2.2.2.2.2.2.1, o.2.2.2.2.2.2.2.2.1, o.2.2.2.2.2.2.2.2.2.1, o.2.2.2.2.2.2.2.2.2.2) mf wf q) (x := -1000000001) (M' := mX6_finding) dX6_copy_17 lkX6_65 mcX6_finding hp_0 rfl (ev_X6_finding (j := 0) (by decide) (by decide)) rfl rfl (Nat.le_of_ble_eq_true rfl) ?_
      exact xg_iret (pc := 20) dX6_copy_20 rfl (cpR (by exact if_neg (fun q => c_11 q.2)))
set_option maxRecDepth 100000 in
theorem lp_X6_lays {sn : Nat} (okp : okP f0) (hsn : sn ≤ 3) (hz0 : o.2.2.2.2.2.2.2.2.2.1 sn = nI (ix (o.2.2.2.2.2.2.2.2.2.1 sn)) ∧ ix (o.2.2.2.2.2.2.2.2.2.1 sn) ≤ 40) : ∀ (k tq : Nat), tq + k = min (ix (o.2.2.2.2.2.2.2.2.2.1 sn)) (nT f0) → ∀ (l5 : Option Value), ∀ (l6 : Option Value), xGo X false (d + 2) 0 0 mX6_lays 58 [some (.ref 0), some (.int (nI sn)), some (.int (nI (lyN (o.2.2.2.2.2.2.2.2.2.2 sn) tq))), some (.int (nI (min (ix (o.2.2.2.2.2.2.2.2.2.1 sn)) (nT f0)))), some (.int (nI tq)), l5, l6] [] (hp (tri (itF (lyF (o.2.2.2.2.2.2.2.2.2.2 sn)) tq f0) f1 f2) o mf wf q) (CP mf wf q (.int (nI (lyN (o.2.2.2.2.2.2.2.2.2.2 sn) (min (ix (o.2.2.2.2.2.2.2.2.2.1 sn)) (nT f0)))), o, itF (lyF (o.2.2.2.2.2.2.2.2.2.2 sn)) (min (ix (o.2.2.2.2.2.2.2.2.2.1 sn)) (nT f0)) f0, f2)) := by
  intro k
  induction k with
  | zero =>
    intro tq ht l5 l6
    have h8 := okp.h8
    have etq : tq = min (ix (o.2.2.2.2.2.2.2.2.2.1 sn)) (nT f0) := by omega
    subst etq
    refine xg_iload (pc := 58) dX6_lays_58 rfl ?_
    refine xg_iload_n (pc := 60) dX6_lays_60 rfl ?_
    refine xg_icmp_ge (pc := 61) (tgt := 119) dX6_lays_61 (by decide) (fun c_61 => ?_) (fun c_61 => absurd c_61 (fun q => q (nI_le (by omega) (by omega))))
    refine xg_iload_n (pc := 119) dX6_lays_119 rfl ?_
    exact xg_iret (pc := 120) dX6_lays_120 rfl (cpR rfl)
  | succ k ih =>
    intro tq ht l5 l6
    have h8 := okp.h8
    have hz9 := hz0.2
    refine xg_iload (pc := 58) dX6_lays_58 rfl ?_
    refine xg_iload_n (pc := 60) dX6_lays_60 rfl ?_
    refine xg_icmp_ge (pc := 61) (tgt := 119) dX6_lays_61 (by decide) (fun c_61 => absurd c_61 (nI_ge (by omega) (by omega))) (fun c_61 => ?_)
    refine xg_aload_n (pc := 64) dX6_lays_64 rfl ?_
    refine xg_get (pc := 65) dX6_lays_65 flX6_44 hp_0 rfl ?_
    refine xg_iload_n (pc := 68) dX6_lays_68 rfl ?_
    refine xg_aald (pc := 69) (r := 53 + 2 * sn) sn dX6_lays_69 hp_52 (by decide) rfl (by omega) (by decide) (if_pos (by omega)) ?_
    refine xg_get (pc := 70) dX6_lays_70 flX6_245 (hp_sheet (by omega)) rfl ?_
    refine xg_iload (pc := 73) dX6_lays_73 rfl ?_
    refine xg_lald (pc := 75) tq dX6_lays_75 (hp_nums (by omega)) rfl (by omega) (by decide) ?_
    refine xg_lstore (pc := 76) (ls' := [some (.ref 0), some (.int (nI sn)), some (.int (nI (lyN (o.2.2.2.2.2.2.2.2.2.2 sn) tq))), some (.int (nI (min (ix (o.2.2.2.2.2.2.2.2.2.1 sn)) (nT f0)))), some (.int (nI tq)), some (.long (o.2.2.2.2.2.2.2.2.2.2 sn tq)), none]) dX6_lays_76 (by decide) rfl ?_
    refine xg_lload (pc := 78) dX6_lays_78 rfl ?_
    refine xg_lconst (v := 0) (pc := 80) dX6_lays_80 (by decide) ?_
    refine xg_lcmp (pc := 81) dX6_lays_81 ?_
    refine xg_if_lt (pc := 82) (tgt := 113) dX6_lays_82 (by decide) (fun c_82 => ?_) (fun c_82 => ?_)
    ·
      refine xg_iinc (pc := 113) (y := nI (tq + 1)) (ls' := [some (.ref 0), some (.int (nI sn)), some (.int (nI (lyN (o.2.2.2.2.2.2.2.2.2.2 sn) tq))), some (.int (nI (min (ix (o.2.2.2.2.2.2.2.2.2.1 sn)) (nT f0)))), some (.int (nI (tq + 1))), some (.long (o.2.2.2.2.2.2.2.2.2.2 sn tq)), none]) dX6_lays_113 rfl (xinc _) (by decide) rfl ?_
      refine xg_goto (pc := 116) (tgt := 58) dX6_lays_116 (by decide) ?_
      rw [lg_lt] at c_82
      have e1 : itF (lyF (o.2.2.2.2.2.2.2.2.2.2 sn)) (tq + 1) f0 = itF (lyF (o.2.2.2.2.2.2.2.2.2.2 sn)) tq f0 := if_neg (fun q => Int64.not_le.mpr c_82 q.1)
      have e2 : lyN (o.2.2.2.2.2.2.2.2.2.2 sn) (tq + 1) = lyN (o.2.2.2.2.2.2.2.2.2.2 sn) tq := if_neg (fun q => Int64.not_le.mpr c_82 q.1)
      have z := ih (tq + 1) (by omega)
      rw [e1, e2] at z
      exact z _ _
    ·
      refine xg_lload (pc := 85) dX6_lays_85 rfl ?_
      refine xg_ldc2 (v := 99) (pc := 87) dX6_lays_87 clX6_266 ?_
      refine xg_lcmp (pc := 90) dX6_lays_90 ?_
      refine xg_if_gt (pc := 91) (tgt := 113) dX6_lays_91 (by decide) (fun c_91 => ?_) (fun c_91 => ?_)
      ·
        refine xg_iinc (pc := 113) (y := nI (tq + 1)) (ls' := [some (.ref 0), some (.int (nI sn)), some (.int (nI (lyN (o.2.2.2.2.2.2.2.2.2.2 sn) tq))), some (.int (nI (min (ix (o.2.2.2.2.2.2.2.2.2.1 sn)) (nT f0)))), some (.int (nI (tq + 1))), some (.long (o.2.2.2.2.2.2.2.2.2.2 sn tq)), none]) dX6_lays_113 rfl (xinc _) (by decide) rfl ?_
        refine xg_goto (pc := 116) (tgt := 58) dX6_lays_116 (by decide) ?_
        rw [lg_gt] at c_91
        have e1 : itF (lyF (o.2.2.2.2.2.2.2.2.2.2 sn)) (tq + 1) f0 = itF (lyF (o.2.2.2.2.2.2.2.2.2.2 sn)) tq f0 := if_neg (fun q => Int64.not_le.mpr c_91 q.2)
        have e2 : lyN (o.2.2.2.2.2.2.2.2.2.2 sn) (tq + 1) = lyN (o.2.2.2.2.2.2.2.2.2.2 sn) tq := if_neg (fun q => Int64.not_le.mpr c_91 q.2)
        have z := ih (tq + 1) (by omega)
        rw [e1, e2] at z
        exact z _ _
      ·
        refine xg_aload_n (pc := 94) dX6_lays_94 rfl ?_
        refine xg_get (pc := 95) dX6_lays_95 flX6_10 hp_0 rfl ?_
        refine xg_get (pc := 98) dX6_lays_98 flX6_102 (hp_lake0 ) rfl ?_
        refine xg_iload (pc := 101) dX6_lays_101 rfl ?_
        refine xg_aald (pc := 103) (r := 3 + 16 * 0 + tq) tq dX6_lays_103 (hp_tarr0 ) (by decide) rfl (by omega) (by decide) (if_pos (by omega)) ?_
        refine xg_lload (pc := 104) dX6_lays_104 rfl ?_
        refine xg_l2i (pc := 106) dX6_lays_106 ?_
        refine xg_puti (pc := 107) (h' := hp (tri (upd (itF (lyF (o.2.2.2.2.2.2.2.2.2.2 sn)) tq f0) (5 + 5 * tq + 3) (Int64.toInt32 (o.2.2.2.2.2.2.2.2.2.2 sn tq))) f1 f2) o mf wf q) dX6_lays_107 flX6_117 (hp_thing0  (by omega)) (Nat.le_of_ble_eq_true rfl) (hs_t0  (c := 3) (by omega) (by decide)) ?_
        refine xg_iinc (pc := 110) (y := nI (lyN (o.2.2.2.2.2.2.2.2.2.2 sn) tq + 1)) (ls' := [some (.ref 0), some (.int (nI sn)), some (.int (nI (lyN (o.2.2.2.2.2.2.2.2.2.2 sn) tq + 1))), some (.int (nI (min (ix (o.2.2.2.2.2.2.2.2.2.1 sn)) (nT f0)))), some (.int (nI tq)), some (.long (o.2.2.2.2.2.2.2.2.2.2 sn tq)), none]) dX6_lays_110 rfl (xinc _) (by decide) rfl ?_
        refine xg_iinc (pc := 113) (y := nI (tq + 1)) (ls' := [some (.ref 0), some (.int (nI sn)), some (.int (nI (lyN (o.2.2.2.2.2.2.2.2.2.2 sn) tq + 1))), some (.int (nI (min (ix (o.2.2.2.2.2.2.2.2.2.1 sn)) (nT f0)))), some (.int (nI (tq + 1))), some (.long (o.2.2.2.2.2.2.2.2.2.2 sn tq)), none]) dX6_lays_113 rfl (xinc _) (by decide) rfl ?_
        refine xg_goto (pc := 116) (tgt := 58) dX6_lays_116 (by decide) ?_
        rw [lg_lt] at c_82
        rw [lg_gt] at c_91
        have e0 : 0 ≤ (o.2.2.2.2.2.2.2.2.2.2 sn) tq ∧ (o.2.2.2.2.2.2.2.2.2.2 sn) tq ≤ 99 := ⟨Int64.not_lt.mp c_82, Int64.not_lt.mp c_91⟩
        have e1 : itF (lyF (o.2.2.2.2.2.2.2.2.2.2 sn)) (tq + 1) f0 = upd (itF (lyF (o.2.2.2.2.2.2.2.2.2.2 sn)) tq f0) (5 + 5 * tq + 3) (Int64.toInt32 ((o.2.2.2.2.2.2.2.2.2.2 sn) tq)) := if_pos e0
        have e2 : lyN (o.2.2.2.2.2.2.2.2.2.2 sn) (tq + 1) = lyN (o.2.2.2.2.2.2.2.2.2.2 sn) tq + 1 := if_pos e0
        have z := ih (tq + 1) (by omega)
        rw [e1, e2] at z
        exact z _ _
set_option maxRecDepth 100000 in
set_option maxHeartbeats 4000000 in
theorem ev_X6_lays {s : Int32} (okp : okP f0) (okz : okS (oZ o)) : xEv X false (d + 2) 0 0 mX6_lays [.ref 0, .int s] (hp (tri f0 f1 f2) o mf wf q) (CP mf wf q (c_lays o f0 f2 s)) := by
  have h8 := okp.h8
  refine xEv.of (ls := [some (.ref 0), some (.int s), none, none, none, none, none]) mcX6_lays.1.2.2.2.2 (Nat.le_of_ble_eq_true rfl) rfl ?_
  refine xg_iload_n (pc := 0) dX6_lays_0 rfl ?_
  refine xg_csI (pc := 1) (h1 := hp (tri f0 f1 f2) o mf wf q) (x := if 0 ≤ s ∧ s ≤ 3 then 1 else 0) (M' := mX6_isSheet) dX6_lays_1 lkX6_230 mcX6_isSheet (ev_X6_isSheet) rfl rfl (Nat.le_of_ble_eq_true rfl) ?_
  refine xg_bnz (pc := 4) (tgt := 14) dX6_lays_4 (by decide) (fun c_4 => ?_) (fun c_4 => ?_)
  ·
    obtain ⟨sn, hsn, rfl⟩ := sheet_n c_4
    have esn : ix (nI sn) = sn := nI_clamp (by omega)
    have hz0 := okz sn (by omega)
    have hz9 := hz0.2
    refine xg_aload_n (pc := 14) dX6_lays_14 rfl ?_
    refine xg_get (pc := 15) dX6_lays_15 flX6_44 hp_0 rfl ?_
    refine xg_iload_n (pc := 18) dX6_lays_18 rfl ?_
    refine xg_aald (pc := 19) (r := 53 + 2 * sn) sn dX6_lays_19 hp_52 (by decide) rfl (by omega) (by decide) (if_pos (by omega)) ?_
    refine xg_cvI (pc := 20) (h1 := hp (tri f0 f1 f2) o mf wf q) (x := if o.2.2.2.2.2.2.2.2.1 sn = 0 then 1 else 0) (M' := mX2_isMissing) dX6_lays_20 lkX6_240 mcX2_isMissing (hp_sheet (by omega)) rfl (ev_X2_isMissing (by omega)) rfl rfl (Nat.le_of_ble_eq_true rfl) ?_
    refine xg_bz (pc := 23) (tgt := 33) dX6_lays_23 (by decide) (fun c_23 => ?_) (fun c_23 => ?_)
    ·
      refine xg_iconst (v := 0) (pc := 33) dX6_lays_33 (by decide) ?_
      refine xg_istore_n (pc := 34) (ls' := [some (.ref 0), some (.int (nI sn)), some (.int 0), none, none, none, none]) dX6_lays_34 (by decide) rfl ?_
      refine xg_aload_n (pc := 35) dX6_lays_35 rfl ?_
      refine xg_get (pc := 36) dX6_lays_36 flX6_44 hp_0 rfl ?_
      refine xg_iload_n (pc := 39) dX6_lays_39 rfl ?_
      refine xg_aald (pc := 40) (r := 53 + 2 * sn) sn dX6_lays_40 hp_52 (by decide) rfl (by omega) (by decide) (if_pos (by omega)) ?_
      refine xg_get (pc := 41) dX6_lays_41 flX6_237 (hp_sheet (by omega)) rfl ?_
      refine xg_eq hz0.1 ?_
      refine xg_aload_n (pc := 44) dX6_lays_44 rfl ?_
      refine xg_get (pc := 45) dX6_lays_45 flX6_10 hp_0 rfl ?_
      refine xg_get (pc := 48) dX6_lays_48 flX6_91 (hp_lake0 ) rfl ?_
      refine xg_eq okp.1.1.1 ?_
      refine xg_mmin (pc := 51) dX6_lays_51 lkX6_205 mm_min (Nat.le_of_ble_eq_true rfl) ?_
      refine xg_eq (mn2_n (by omega) (by omega)) ?_
      refine xg_istore_n (pc := 54) (ls' := [some (.ref 0), some (.int (nI sn)), some (.int 0), some (.int (nI (min (ix (o.2.2.2.2.2.2.2.2.2.1 sn)) (nT f0)))), none, none, none]) dX6_lays_54 (by decide) rfl ?_
      refine xg_iconst (v := 0) (pc := 55) dX6_lays_55 (by decide) ?_
      refine xg_istore (pc := 56) (ls' := [some (.ref 0), some (.int (nI sn)), some (.int 0), some (.int (nI (min (ix (o.2.2.2.2.2.2.2.2.2.1 sn)) (nT f0)))), some (.int 0), none, none]) dX6_lays_56 (by decide) rfl ?_
      rw [show c_lays o f0 f2 (nI sn) = (.int (nI (lyN (o.2.2.2.2.2.2.2.2.2.2 sn) (min (ix (o.2.2.2.2.2.2.2.2.2.1 sn)) (nT f0)))), o, itF (lyF (o.2.2.2.2.2.2.2.2.2.2 sn)) (min (ix (o.2.2.2.2.2.2.2.2.2.1 sn)) (nT f0)) f0, f2) from by unfold c_lays; rw [if_pos c_4, esn, if_neg c_23]]
      exact lp_X6_lays okp hsn hz0 (min (ix (o.2.2.2.2.2.2.2.2.2.1 sn)) (nT f0)) 0 (by omega) _ _
    ·
      refine xg_aload_n (pc := 26) dX6_lays_26 rfl ?_
      refine xg_ldc (v := -1000000006) (pc := 27) dX6_lays_27 ccX6_244 ?_
      refine xg_cvI (pc := 29) (h1 := hp (tri f0 f1 f2) (o.1, upd o.2.1 5 (o.2.1 5 + 1), o.2.2.1, o.2.2.2.1, o.2.2.2.2.1, o.2.2.2.2.2.1, o.2.2.2.2.2.2.1, o.2.2.2.2.2.2.2.1, o.2.2.2.2.2.2.2.2.1, o.2.2.2.2.2.2.2.2.2.1, o.2.2.2.2.2.2.2.2.2.2) mf wf q) (x := -1000000006) (M' := mX6_finding) dX6_lays_29 lkX6_65 mcX6_finding hp_0 rfl (ev_X6_finding (j := 5) (by decide) (by decide)) rfl rfl (Nat.le_of_ble_eq_true rfl) ?_
      exact xg_iret (pc := 32) dX6_lays_32 rfl (cpR (by exact (if_pos c_4).trans (if_pos (by rw [esn]; exact c_23))))
  ·
    refine xg_aload_n (pc := 7) dX6_lays_7 rfl ?_
    refine xg_ldc (v := -1000000001) (pc := 8) dX6_lays_8 ccX6_64 ?_
    refine xg_cvI (pc := 10) (h1 := hp (tri f0 f1 f2) (o.1, upd o.2.1 0 (o.2.1 0 + 1), o.2.2.1, o.2.2.2.1, o.2.2.2.2.1, o.2.2.2.2.2.1, o.2.2.2.2.2.2.1, o.2.2.2.2.2.2.2.1, o.2.2.2.2.2.2.2.2.1, o.2.2.2.2.2.2.2.2.2.1, o.2.2.2.2.2.2.2.2.2.2) mf wf q) (x := -1000000001) (M' := mX6_finding) dX6_lays_10 lkX6_65 mcX6_finding hp_0 rfl (ev_X6_finding (j := 0) (by decide) (by decide)) rfl rfl (Nat.le_of_ble_eq_true rfl) ?_
    exact xg_iret (pc := 13) dX6_lays_13 rfl (cpR (by exact if_neg c_4))
set_option maxRecDepth 100000 in
theorem lp_X6_book {sn bn : Nat} {g1 : Nat → Int32} (okp : okP f0) (lg : lvE f0 g1) (hsn : sn ≤ 3) (hz0 : o.2.2.2.2.2.2.2.2.2.1 sn = nI (ix (o.2.2.2.2.2.2.2.2.2.1 sn)) ∧ ix (o.2.2.2.2.2.2.2.2.2.1 sn) ≤ 40) (hbn : bn < nB f0) : ∀ (k tq : Nat), tq + k = ix (o.2.2.2.2.2.2.2.2.2.1 sn) → xGo X false (d + 6) 0 0 mX6_book 61 [some (.ref 0), some (.int (nI sn)), some (.int (nI bn)), some (.int (nI tq))] [] (hp (tri f0 (hsC tq g1) f2) (o.1, o.2.1, o.2.2.1, o.2.2.2.1, o.2.2.2.2.1, o.2.2.2.2.2.1, o.2.2.2.2.2.2.1, o.2.2.2.2.2.2.2.1, o.2.2.2.2.2.2.2.2.1, o.2.2.2.2.2.2.2.2.2.1, va_up o.2.2.2.2.2.2.2.2.2.2 sn (bkL (o.2.2.2.2.2.2.2.2.1 sn) (fun i => hsC i f0 (45 + 4 * bn + 2)) tq (o.2.2.2.2.2.2.2.2.2.2 sn))) mf wf q) (CP mf wf q (.int (nI (ix (o.2.2.2.2.2.2.2.2.2.1 sn))), oS o (oB o) (oZ o) (va_up (oN o) sn (bkL (oB o sn) (fun i => hsC i f0 (45 + 4 * bn + 2)) (ix (o.2.2.2.2.2.2.2.2.2.1 sn)) (oN o sn))), f0, f2)) := by
  intro k
  induction k with
  | zero =>
    intro tq ht
    have hz9 := hz0.2
    have etq : tq = ix (o.2.2.2.2.2.2.2.2.2.1 sn) := by omega
    subst etq
    refine xg_iload_n (pc := 61) dX6_book_61 rfl ?_
    refine xg_aload_n (pc := 62) dX6_book_62 rfl ?_
    refine xg_get (pc := 63) dX6_book_63 flX6_44 hp_0 rfl ?_
    refine xg_iload_n (pc := 66) dX6_book_66 rfl ?_
    refine xg_aald (pc := 67) (r := 53 + 2 * sn) sn dX6_book_67 hp_52 (by decide) rfl (by omega) (by decide) (if_pos (by omega)) ?_
    refine xg_get (pc := 68) dX6_book_68 flX6_237 (hp_sheet (by omega)) rfl ?_
    refine xg_eq hz0.1 ?_
    refine xg_icmp_ge (pc := 71) (tgt := 110) dX6_book_71 (by decide) (fun c_71 => ?_) (fun c_71 => absurd c_71 (fun q => q (nI_le (by omega) (by omega))))
    refine xg_aload_n (pc := 110) dX6_book_110 rfl ?_
    refine xg_get (pc := 111) dX6_book_111 flX6_44 hp_0 rfl ?_
    refine xg_iload_n (pc := 114) dX6_book_114 rfl ?_
    refine xg_aald (pc := 115) (r := 53 + 2 * sn) sn dX6_book_115 hp_52 (by decide) rfl (by omega) (by decide) (if_pos (by omega)) ?_
    refine xg_get (pc := 116) dX6_book_116 flX6_237 (hp_sheet (by omega)) rfl ?_
    refine xg_eq hz0.1 ?_
    exact xg_iret (pc := 119) dX6_book_119 rfl (cpR rfl)
  | succ k ih =>
    intro tq ht
    have hz9 := hz0.2
    have h5 := okp.h5
    refine xg_iload_n (pc := 61) dX6_book_61 rfl ?_
    refine xg_aload_n (pc := 62) dX6_book_62 rfl ?_
    refine xg_get (pc := 63) dX6_book_63 flX6_44 hp_0 rfl ?_
    refine xg_iload_n (pc := 66) dX6_book_66 rfl ?_
    refine xg_aald (pc := 67) (r := 53 + 2 * sn) sn dX6_book_67 hp_52 (by decide) rfl (by omega) (by decide) (if_pos (by omega)) ?_
    refine xg_get (pc := 68) dX6_book_68 flX6_237 (hp_sheet (by omega)) rfl ?_
    refine xg_eq hz0.1 ?_
    refine xg_icmp_ge (pc := 71) (tgt := 110) dX6_book_71 (by decide) (fun c_71 => absurd c_71 (nI_ge (by omega) (by omega))) (fun c_71 => ?_)
    refine xg_aload_n (pc := 74) dX6_book_74 rfl ?_
    refine xg_get (pc := 75) dX6_book_75 flX6_44 hp_0 rfl ?_
    refine xg_iload_n (pc := 78) dX6_book_78 rfl ?_
    refine xg_aald (pc := 79) (r := 53 + 2 * sn) sn dX6_book_79 hp_52 (by decide) rfl (by omega) (by decide) (if_pos (by omega)) ?_
    refine xg_iload_n (pc := 80) dX6_book_80 rfl ?_
    refine xg_aload_n (pc := 81) dX6_book_81 rfl ?_
    refine xg_get (pc := 82) dX6_book_82 flX6_16 hp_0 rfl ?_
    refine xg_get (pc := 85) dX6_book_85 flX6_150 (hp_lake1 ) rfl ?_
    refine xg_iload_n (pc := 88) dX6_book_88 rfl ?_
    refine xg_aald (pc := 89) (r := 12 + 16 * 1 + bn) bn dX6_book_89 (hp_barr1 ) (by decide) rfl (by omega) (by decide) (if_pos (by omega)) ?_
    refine xg_get (pc := 90) dX6_book_90 flX6_162 (hp_boat1  (by omega)) rfl ?_
    refine xg_eq (hsL_b okp lg hbn (by decide)) ?_
    refine xg_i2l (pc := 93) dX6_book_93 ?_
    refine xg_cvV (pc := 94) (h1 := hp (tri f0 (hsC tq g1) f2) (o.1, o.2.1, o.2.2.1, o.2.2.2.1, o.2.2.2.2.1, o.2.2.2.2.2.1, o.2.2.2.2.2.2.1, o.2.2.2.2.2.2.2.1, o.2.2.2.2.2.2.2.2.1, o.2.2.2.2.2.2.2.2.2.1, va_up (va_up o.2.2.2.2.2.2.2.2.2.2 sn (bkL (o.2.2.2.2.2.2.2.2.1 sn) (fun i => hsC i f0 (45 + 4 * bn + 2)) tq (o.2.2.2.2.2.2.2.2.2.2 sn))) sn (vp_updL ((va_up o.2.2.2.2.2.2.2.2.2.2 sn (bkL (o.2.2.2.2.2.2.2.2.1 sn) (fun i => hsC i f0 (45 + 4 * bn + 2)) tq (o.2.2.2.2.2.2.2.2.2.2 sn))) sn) tq (cut (o.2.2.2.2.2.2.2.2.1 sn) (Int32.toInt64 (hsC tq f0 (45 + 4 * bn + 2)))))) mf wf q) (M' := mX2_put) dX6_book_94 lkX6_249 mcX2_put (hp_sheet (by omega)) rfl (ev_X2_put (i := tq) (by omega) hz0.1 (by omega) hz0.2) rfl rfl (Nat.le_of_ble_eq_true rfl) ?_
    refine xg_aload_n (pc := 97) dX6_book_97 rfl ?_
    refine xg_get (pc := 98) dX6_book_98 flX6_16 hp_0 rfl ?_
    refine xg_cvV (pc := 101) (h1 := hp (tri f0 (hrC (hsC tq g1)) f2) (o.1, o.2.1, o.2.2.1, o.2.2.2.1, o.2.2.2.2.1, o.2.2.2.2.2.1, o.2.2.2.2.2.2.1, o.2.2.2.2.2.2.2.1, o.2.2.2.2.2.2.2.2.1, o.2.2.2.2.2.2.2.2.2.1, va_up (va_up o.2.2.2.2.2.2.2.2.2.2 sn (bkL (o.2.2.2.2.2.2.2.2.1 sn) (fun i => hsC i f0 (45 + 4 * bn + 2)) tq (o.2.2.2.2.2.2.2.2.2.2 sn))) sn (vp_updL ((va_up o.2.2.2.2.2.2.2.2.2.2 sn (bkL (o.2.2.2.2.2.2.2.2.1 sn) (fun i => hsC i f0 (45 + 4 * bn + 2)) tq (o.2.2.2.2.2.2.2.2.2.2 sn))) sn) tq (cut (o.2.2.2.2.2.2.2.2.1 sn) (Int32.toInt64 (hsC tq f0 (45 + 4 * bn + 2)))))) mf wf q) (M' := mX1_passHour) dX6_book_101 lkX6_192 mcX1_passHour (hp_lake1 ) rfl (ev1_X1_passHour (hsC_ok (lg.okM okp.1) tq)) rfl rfl (Nat.le_of_ble_eq_true rfl) ?_
    refine xg_iinc (pc := 104) (y := nI (tq + 1)) (ls' := [some (.ref 0), some (.int (nI sn)), some (.int (nI bn)), some (.int (nI (tq + 1)))]) dX6_book_104 rfl (xinc _) (by decide) rfl ?_
    refine xg_goto (pc := 107) (tgt := 61) dX6_book_107 (by decide) ?_
    rw [show va_up (va_up o.2.2.2.2.2.2.2.2.2.2 sn (bkL (o.2.2.2.2.2.2.2.2.1 sn) (fun i => hsC i f0 (45 + 4 * bn + 2)) tq (o.2.2.2.2.2.2.2.2.2.2 sn))) sn (vp_updL ((va_up o.2.2.2.2.2.2.2.2.2.2 sn (bkL (o.2.2.2.2.2.2.2.2.1 sn) (fun i => hsC i f0 (45 + 4 * bn + 2)) tq (o.2.2.2.2.2.2.2.2.2.2 sn))) sn) tq (cut (o.2.2.2.2.2.2.2.2.1 sn) (Int32.toInt64 (hsC tq f0 (45 + 4 * bn + 2))))) = va_up o.2.2.2.2.2.2.2.2.2.2 sn (bkL (o.2.2.2.2.2.2.2.2.1 sn) (fun i => hsC i f0 (45 + 4 * bn + 2)) (tq + 1) (o.2.2.2.2.2.2.2.2.2.2 sn)) from by rw [va_up_up, va_up_at]; exact congrArg (va_up _ _) bkL_s]
    exact ih (tq + 1) (by omega)
set_option maxRecDepth 100000 in
set_option maxHeartbeats 4000000 in
theorem ev_X6_book {s b : Int32} (okp : okP f0) (okz : okS (oZ o)) : xEv X false (d + 6) 0 0 mX6_book [.ref 0, .int s, .int b] (hp (tri f0 f1 f2) o mf wf q) (CP mf wf q (c_book o f0 f2 s b)) := by
  have ok := okp.1.1
  have h5 := okp.h5
  refine xEv.of (ls := [some (.ref 0), some (.int s), some (.int b), none]) mcX6_book.1.2.2.2.2 (Nat.le_of_ble_eq_true rfl) rfl ?_
  refine xg_iload_n (pc := 0) dX6_book_0 rfl ?_
  refine xg_csI (pc := 1) (h1 := hp (tri f0 f1 f2) o mf wf q) (x := if 0 ≤ s ∧ s ≤ 3 then 1 else 0) (M' := mX6_isSheet) dX6_book_1 lkX6_230 mcX6_isSheet (ev_X6_isSheet) rfl rfl (Nat.le_of_ble_eq_true rfl) ?_
  refine xg_bnz (pc := 4) (tgt := 14) dX6_book_4 (by decide) (fun c_4 => ?_) (fun c_4 => ?_)
  ·
    obtain ⟨sn, hsn, rfl⟩ := sheet_n c_4
    have esn : ix (nI sn) = sn := nI_clamp (by omega)
    have hz0 := okz sn (by omega)
    have hz9 := hz0.2
    refine xg_aload_n (pc := 14) dX6_book_14 rfl ?_
    refine xg_get (pc := 15) dX6_book_15 flX6_44 hp_0 rfl ?_
    refine xg_iload_n (pc := 18) dX6_book_18 rfl ?_
    refine xg_aald (pc := 19) (r := 53 + 2 * sn) sn dX6_book_19 hp_52 (by decide) rfl (by omega) (by decide) (if_pos (by omega)) ?_
    refine xg_cvI (pc := 20) (h1 := hp (tri f0 f1 f2) o mf wf q) (x := if o.2.2.2.2.2.2.2.2.1 sn = 0 then 1 else 0) (M' := mX2_isMissing) dX6_book_20 lkX6_240 mcX2_isMissing (hp_sheet (by omega)) rfl (ev_X2_isMissing (by omega)) rfl rfl (Nat.le_of_ble_eq_true rfl) ?_
    refine xg_bz (pc := 23) (tgt := 33) dX6_book_23 (by decide) (fun c_23 => ?_) (fun c_23 => ?_)
    ·
      refine xg_aload_n (pc := 33) dX6_book_33 rfl ?_
      refine xg_iload_n (pc := 34) dX6_book_34 rfl ?_
      refine xg_cvI (pc := 35) (h1 := hp (tri f0 f1 f2) o mf wf q) (x := if 0 ≤ b ∧ b < f0 4 then 1 else 0) (M' := mX6_isBoat) dX6_book_35 lkX6_147 mcX6_isBoat hp_0 rfl (ev_X6_isBoat) rfl rfl (Nat.le_of_ble_eq_true rfl) ?_
      refine xg_bnz (pc := 38) (tgt := 48) dX6_book_38 (by decide) (fun c_38 => ?_) (fun c_38 => ?_)
      ·
        obtain ⟨bn, hbn, rfl⟩ := idxB ok c_38
        have ebn : ix (nI bn) = bn := nI_clamp (by omega)
        refine xg_aload_n (pc := 48) dX6_book_48 rfl ?_
        refine xg_get (pc := 49) dX6_book_49 flX6_16 hp_0 rfl ?_
        refine xg_aload_n (pc := 52) dX6_book_52 rfl ?_
        refine xg_get (pc := 53) dX6_book_53 flX6_10 hp_0 rfl ?_
        refine xg_cvV (pc := 56) (h1 := hp (tri f0 (bcF f0 f1) f2) o mf wf q) (M' := mX1_become) dX6_book_56 lkX6_188 mcX1_become (hp_lake1 ) rfl (ev_bec_10 okp.1.1) rfl rfl (Nat.le_of_ble_eq_true rfl) ?_
        generalize hg1 : bcF f0 f1 = g1
        have lg : lvE f0 g1 := hg1 ▸ bcF_lv okp.h8
        refine xg_iconst (v := 0) (pc := 59) dX6_book_59 (by decide) ?_
        refine xg_istore_n (pc := 60) (ls' := [some (.ref 0), some (.int (nI sn)), some (.int (nI bn)), some (.int 0)]) dX6_book_60 (by decide) rfl ?_
        rw [show c_book o f0 f2 (nI sn) (nI bn) = (.int (nI (ix (o.2.2.2.2.2.2.2.2.2.1 sn))), oS o (oB o) (oZ o) (va_up (oN o) sn (bkL (oB o sn) (fun i => hsC i f0 (45 + 4 * bn + 2)) (ix (o.2.2.2.2.2.2.2.2.2.1 sn)) (oN o sn))), f0, f2) from by unfold c_book; rw [if_pos c_4, esn, if_neg c_23, if_pos c_38, ebn, ← hz0.1]]
        have z := lp_X6_book (X := X) (d := d) (o := o) (mf := mf) (wf := wf) (q := q) (f2 := f2) okp lg hsn hz0 hbn (ix (o.2.2.2.2.2.2.2.2.2.1 sn)) 0 (by omega)
        rw [bkL_0, va_up_id] at z
        exact z
      ·
        refine xg_aload_n (pc := 41) dX6_book_41 rfl ?_
        refine xg_ldc (v := -1000000001) (pc := 42) dX6_book_42 ccX6_64 ?_
        refine xg_cvI (pc := 44) (h1 := hp (tri f0 f1 f2) (o.1, upd o.2.1 0 (o.2.1 0 + 1), o.2.2.1, o.2.2.2.1, o.2.2.2.2.1, o.2.2.2.2.2.1, o.2.2.2.2.2.2.1, o.2.2.2.2.2.2.2.1, o.2.2.2.2.2.2.2.2.1, o.2.2.2.2.2.2.2.2.2.1, o.2.2.2.2.2.2.2.2.2.2) mf wf q) (x := -1000000001) (M' := mX6_finding) dX6_book_44 lkX6_65 mcX6_finding hp_0 rfl (ev_X6_finding (j := 0) (by decide) (by decide)) rfl rfl (Nat.le_of_ble_eq_true rfl) ?_
        exact xg_iret (pc := 47) dX6_book_47 rfl (cpR (by exact (if_pos c_4).trans ((if_neg (by rw [esn]; exact c_23)).trans (if_neg c_38))))
    ·
      refine xg_aload_n (pc := 26) dX6_book_26 rfl ?_
      refine xg_ldc (v := -1000000006) (pc := 27) dX6_book_27 ccX6_244 ?_
      refine xg_cvI (pc := 29) (h1 := hp (tri f0 f1 f2) (o.1, upd o.2.1 5 (o.2.1 5 + 1), o.2.2.1, o.2.2.2.1, o.2.2.2.2.1, o.2.2.2.2.2.1, o.2.2.2.2.2.2.1, o.2.2.2.2.2.2.2.1, o.2.2.2.2.2.2.2.2.1, o.2.2.2.2.2.2.2.2.2.1, o.2.2.2.2.2.2.2.2.2.2) mf wf q) (x := -1000000006) (M' := mX6_finding) dX6_book_29 lkX6_65 mcX6_finding hp_0 rfl (ev_X6_finding (j := 5) (by decide) (by decide)) rfl rfl (Nat.le_of_ble_eq_true rfl) ?_
      exact xg_iret (pc := 32) dX6_book_32 rfl (cpR (by exact (if_pos c_4).trans (if_pos (by rw [esn]; exact c_23))))
  ·
    refine xg_aload_n (pc := 7) dX6_book_7 rfl ?_
    refine xg_ldc (v := -1000000001) (pc := 8) dX6_book_8 ccX6_64 ?_
    refine xg_cvI (pc := 10) (h1 := hp (tri f0 f1 f2) (o.1, upd o.2.1 0 (o.2.1 0 + 1), o.2.2.1, o.2.2.2.1, o.2.2.2.2.1, o.2.2.2.2.2.1, o.2.2.2.2.2.2.1, o.2.2.2.2.2.2.2.1, o.2.2.2.2.2.2.2.2.1, o.2.2.2.2.2.2.2.2.2.1, o.2.2.2.2.2.2.2.2.2.2) mf wf q) (x := -1000000001) (M' := mX6_finding) dX6_book_10 lkX6_65 mcX6_finding hp_0 rfl (ev_X6_finding (j := 0) (by decide) (by decide)) rfl rfl (Nat.le_of_ble_eq_true rfl) ?_
    exact xg_iret (pc := 13) dX6_book_13 rfl (cpR (by exact if_neg c_4))
set_option maxRecDepth 100000 in
theorem lp_X6_isTrueOf {sn bn cn : Nat} {g1 : Nat → Int32} (okp : okP f0) (lg : lvE f0 g1) (hsn : sn ≤ 3) (hz0 : o.2.2.2.2.2.2.2.2.2.1 sn = nI (ix (o.2.2.2.2.2.2.2.2.2.1 sn)) ∧ ix (o.2.2.2.2.2.2.2.2.2.1 sn) ≤ 40) (hbn : bn < nB f0) (hcn : cn < 48) : ∀ (k tq : Nat), tq + k = ix (o.2.2.2.2.2.2.2.2.2.1 sn) → xGo X false (d + 6) 0 0 mX6_isTrueOf 27 [some (.ref 0), some (.ref (53 + 2 * sn)), some (.int (nI bn)), some (.int (nI cn)), some (.int (nI tq))] [] (hp (tri f0 (hsC tq (upd g1 (45 + 4 * bn + 0) (nI cn))) f2) o mf wf q) (fun v h' => v = [.int (al (pb (o.2.2.2.2.2.2.2.2.2.2 sn) (upd f0 (45 + 4 * bn) (nI cn)) bn) k tq)] ∧ h' = hp (tri f0 (hsC (nhc (pb (o.2.2.2.2.2.2.2.2.2.2 sn) (upd f0 (45 + 4 * bn) (nI cn)) bn) k tq) (upd g1 (45 + 4 * bn + 0) (nI cn))) f2) o mf wf q) := by
  intro k
  induction k with
  | zero =>
    intro tq ht
    have h5 := okp.h5
    have okx : okP (upd f0 (45 + 4 * bn) (nI cn)) := okp.at (by omega) (cell_of hcn)
    have hz9 := hz0.2
    have etq : tq = ix (o.2.2.2.2.2.2.2.2.2.1 sn) := by omega
    subst etq
    refine xg_iload (pc := 27) dX6_isTrueOf_27 rfl ?_
    refine xg_aload_n (pc := 29) dX6_isTrueOf_29 rfl ?_
    refine xg_get (pc := 30) dX6_isTrueOf_30 flX6_237 (hp_sheet (by omega)) rfl ?_
    refine xg_eq hz0.1 ?_
    refine xg_icmp_ge (pc := 33) (tgt := 75) dX6_isTrueOf_33 (by decide) (fun c_33 => ?_) (fun c_33 => absurd c_33 (fun q => q (nI_le (by omega) (by omega))))
    refine xg_iconst (v := 1) (pc := 75) dX6_isTrueOf_75 (by decide) ?_
    exact xg_zret (pc := 76) (ty := .boolean) dX6_isTrueOf_76 rfl rfl (⟨rfl, rfl⟩)
  | succ k ih =>
    intro tq ht
    have h5 := okp.h5
    have okx : okP (upd f0 (45 + 4 * bn) (nI cn)) := okp.at (by omega) (cell_of hcn)
    have hz9 := hz0.2
    refine xg_iload (pc := 27) dX6_isTrueOf_27 rfl ?_
    refine xg_aload_n (pc := 29) dX6_isTrueOf_29 rfl ?_
    refine xg_get (pc := 30) dX6_isTrueOf_30 flX6_237 (hp_sheet (by omega)) rfl ?_
    refine xg_eq hz0.1 ?_
    refine xg_icmp_ge (pc := 33) (tgt := 75) dX6_isTrueOf_33 (by decide) (fun c_33 => absurd c_33 (nI_ge (by omega) (by omega))) (fun c_33 => ?_)
    refine xg_aload_n (pc := 36) dX6_isTrueOf_36 rfl ?_
    refine xg_get (pc := 37) dX6_isTrueOf_37 flX6_245 (hp_sheet (by omega)) rfl ?_
    refine xg_iload (pc := 40) dX6_isTrueOf_40 rfl ?_
    refine xg_lald (pc := 42) tq dX6_isTrueOf_42 (hp_nums (by omega)) rfl (by omega) (by decide) ?_
    refine xg_aload_n (pc := 43) dX6_isTrueOf_43 rfl ?_
    refine xg_get (pc := 44) dX6_isTrueOf_44 flX6_16 hp_0 rfl ?_
    refine xg_get (pc := 47) dX6_isTrueOf_47 flX6_150 (hp_lake1 ) rfl ?_
    refine xg_iload_n (pc := 50) dX6_isTrueOf_50 rfl ?_
    refine xg_aald (pc := 51) (r := 12 + 16 * 1 + bn) bn dX6_isTrueOf_51 (hp_barr1 ) (by decide) rfl (by omega) (by decide) (if_pos (by omega)) ?_
    refine xg_get (pc := 52) dX6_isTrueOf_52 flX6_162 (hp_boat1  (by omega)) rfl ?_
    refine xg_eq (hsL_b okx (lg.u (by omega) (by omega)) (by rw [nB_of (f := f0) (pk_un (by omega))]; exact hbn) (by decide)) ?_
    refine xg_i2l (pc := 55) dX6_isTrueOf_55 ?_
    refine xg_lcmp (pc := 56) dX6_isTrueOf_56 ?_
    refine xg_if_eq (pc := 57) (tgt := 62) dX6_isTrueOf_57 (by decide) (fun c_57 => ?_) (fun c_57 => ?_)
    ·
      rw [lg_eq] at c_57
      refine xg_aload_n (pc := 62) dX6_isTrueOf_62 rfl ?_
      refine xg_get (pc := 63) dX6_isTrueOf_63 flX6_16 hp_0 rfl ?_
      refine xg_cvV (pc := 66) (h1 := hp (tri f0 (hrC (hsC tq (upd g1 (45 + 4 * bn + 0) (nI cn)))) f2) o mf wf q) (M' := mX1_passHour) dX6_isTrueOf_66 lkX6_192 mcX1_passHour (hp_lake1 ) rfl (ev1_X1_passHour (hsC_ok ((lg.u (by omega) (by omega)).okM okx.1) tq)) rfl rfl (Nat.le_of_ble_eq_true rfl) ?_
      refine xg_iinc (pc := 69) (y := nI (tq + 1)) (ls' := [some (.ref 0), some (.ref (53 + 2 * sn)), some (.int (nI bn)), some (.int (nI cn)), some (.int (nI (tq + 1)))]) dX6_isTrueOf_69 rfl (xinc _) (by decide) rfl ?_
      refine xg_goto (pc := 72) (tgt := 27) dX6_isTrueOf_72 (by decide) ?_
      rw [show al (pb (o.2.2.2.2.2.2.2.2.2.2 sn) (upd f0 (45 + 4 * bn) (nI cn)) bn) (k + 1) tq = al (pb (o.2.2.2.2.2.2.2.2.2.2 sn) (upd f0 (45 + 4 * bn) (nI cn)) bn) k (tq + 1) from if_pos c_57, show nhc (pb (o.2.2.2.2.2.2.2.2.2.2 sn) (upd f0 (45 + 4 * bn) (nI cn)) bn) (k + 1) tq = nhc (pb (o.2.2.2.2.2.2.2.2.2.2 sn) (upd f0 (45 + 4 * bn) (nI cn)) bn) k (tq + 1) from if_pos c_57]
      exact ih (tq + 1) (by omega)
    ·
      rw [lg_eq] at c_57
      refine xg_iconst (v := 0) (pc := 60) dX6_isTrueOf_60 (by decide) ?_
      exact xg_zret (pc := 61) (ty := .boolean) dX6_isTrueOf_61 rfl rfl (⟨by rw [al, if_neg c_57], by rw [nhc, if_neg c_57]⟩)
set_option maxRecDepth 100000 in
theorem ev_X6_isTrueOf {sn bn cn : Nat} (okp : okP f0) (hsn : sn ≤ 3) (hz0 : o.2.2.2.2.2.2.2.2.2.1 sn = nI (ix (o.2.2.2.2.2.2.2.2.2.1 sn)) ∧ ix (o.2.2.2.2.2.2.2.2.2.1 sn) ≤ 40) (hbn : bn < nB f0) (hcn : cn < 48) : xDv X false (d + 6) mX6_isTrueOf [.ref 0, .ref (53 + 2 * sn), .int (nI bn), .int (nI cn)] (hp (tri f0 f1 f2) o mf wf q) [.int (rdN (o.2.2.2.2.2.2.2.2.2.2 sn) f0 (ix (o.2.2.2.2.2.2.2.2.2.1 sn)) bn cn)] (hp (tri f0 (hsC (nhc (pb (o.2.2.2.2.2.2.2.2.2.2 sn) (upd f0 (45 + 4 * bn) (nI cn)) bn) (ix (o.2.2.2.2.2.2.2.2.2.1 sn)) 0) (upd (bcF f0 f1) (45 + 4 * bn + 0) (nI cn))) f2) o mf wf q) := by
  have h5 := okp.h5
  refine xDv.of (ls := [some (.ref 0), some (.ref (53 + 2 * sn)), some (.int (nI bn)), some (.int (nI cn)), none]) mcX6_isTrueOf.1.2.2.2.2 (Nat.le_of_ble_eq_true rfl) rfl ?_
  refine xg_aload_n (pc := 0) dX6_isTrueOf_0 rfl ?_
  refine xg_get (pc := 1) dX6_isTrueOf_1 flX6_16 hp_0 rfl ?_
  refine xg_aload_n (pc := 4) dX6_isTrueOf_4 rfl ?_
  refine xg_get (pc := 5) dX6_isTrueOf_5 flX6_10 hp_0 rfl ?_
  refine xg_cvV (pc := 8) (h1 := hp (tri f0 (bcF f0 f1) f2) o mf wf q) (M' := mX1_become) dX6_isTrueOf_8 lkX6_188 mcX1_become (hp_lake1 ) rfl (ev_bec_10 okp.1.1) rfl rfl (Nat.le_of_ble_eq_true rfl) ?_
  refine xg_aload_n (pc := 11) dX6_isTrueOf_11 rfl ?_
  refine xg_get (pc := 12) dX6_isTrueOf_12 flX6_16 hp_0 rfl ?_
  refine xg_get (pc := 15) dX6_isTrueOf_15 flX6_150 (hp_lake1 ) rfl ?_
  refine xg_iload_n (pc := 18) dX6_isTrueOf_18 rfl ?_
  refine xg_aald (pc := 19) (r := 12 + 16 * 1 + bn) bn dX6_isTrueOf_19 (hp_barr1 ) (by decide) rfl (by omega) (by decide) (if_pos (by omega)) ?_
  refine xg_iload_n (pc := 20) dX6_isTrueOf_20 rfl ?_
  refine xg_puti (pc := 21) (h' := hp (tri f0 (upd (bcF f0 f1) (45 + 4 * bn + 0) (nI cn)) f2) o mf wf q) dX6_isTrueOf_21 flX6_154 (hp_boat1  (by omega)) (Nat.le_of_ble_eq_true rfl) (hs_b1  (c := 0) (by omega) (by decide)) ?_
  refine xg_iconst (v := 0) (pc := 24) dX6_isTrueOf_24 (by decide) ?_
  refine xg_istore (pc := 25) (ls' := [some (.ref 0), some (.ref (53 + 2 * sn)), some (.int (nI bn)), some (.int (nI cn)), some (.int 0)]) dX6_isTrueOf_25 (by decide) rfl ?_
  exact lp_X6_isTrueOf (g1 := bcF f0 f1) okp (bcF_lv okp.h8) hsn hz0 hbn hcn (ix (o.2.2.2.2.2.2.2.2.2.1 sn)) 0 (by omega)
set_option maxRecDepth 100000 in
theorem lp_X6_read {sn bn : Nat} (okp : okP f0) (hsn : sn ≤ 3) (hz0 : o.2.2.2.2.2.2.2.2.2.1 sn = nI (ix (o.2.2.2.2.2.2.2.2.2.1 sn)) ∧ ix (o.2.2.2.2.2.2.2.2.2.1 sn) ≤ 40) (hbn : bn < nB f0) : ∀ (k tq : Nat), tq + k = 48 → ∀ (f1 : Nat → Int32), xGo X false (d + 7) 0 0 mX6_read 53 [some (.ref 0), some (.int (nI sn)), some (.int (nI bn)), some (.int (sumI (rdN (o.2.2.2.2.2.2.2.2.2.2 sn) f0 (ix (o.2.2.2.2.2.2.2.2.2.1 sn)) bn) tq)), some (.int (nI tq))] [] (hp (tri f0 f1 f2) o mf wf q) (CP mf wf q (.int (sumI (rdN (o.2.2.2.2.2.2.2.2.2.2 sn) f0 (ix (o.2.2.2.2.2.2.2.2.2.1 sn)) bn) 48), o, f0, f2)) := by
  intro k
  induction k with
  | zero =>
    intro tq ht f1
    have etq : tq = 48 := by omega
    subst etq
    refine xg_iload (pc := 53) dX6_read_53 rfl ?_
    refine xg_bipush (v := 48) (pc := 55) dX6_read_55 (by decide) ?_
    refine xg_icmp_ge (pc := 57) (tgt := 85) dX6_read_57 (by decide) (fun c_57 => ?_) (fun c_57 => absurd c_57 (by decide))
    refine xg_iload_n (pc := 85) dX6_read_85 rfl ?_
    exact xg_iret (pc := 86) dX6_read_86 rfl (cpR rfl)
  | succ k ih =>
    intro tq ht f1
    have h5 := okp.h5
    refine xg_iload (pc := 53) dX6_read_53 rfl ?_
    refine xg_bipush (v := 48) (pc := 55) dX6_read_55 (by decide) ?_
    refine xg_icmp_ge (pc := 57) (tgt := 85) dX6_read_57 (by decide) (fun c_57 => absurd c_57 (nI_ge (b := 48) (by omega) (by omega))) (fun c_57 => ?_)
    refine xg_aload_n (pc := 60) dX6_read_60 rfl ?_
    refine xg_aload_n (pc := 61) dX6_read_61 rfl ?_
    refine xg_get (pc := 62) dX6_read_62 flX6_44 hp_0 rfl ?_
    refine xg_iload_n (pc := 65) dX6_read_65 rfl ?_
    refine xg_aald (pc := 66) (r := 53 + 2 * sn) sn dX6_read_66 hp_52 (by decide) rfl (by omega) (by decide) (if_pos (by omega)) ?_
    refine xg_iload_n (pc := 67) dX6_read_67 rfl ?_
    refine xg_iload (pc := 68) dX6_read_68 rfl ?_
    refine xg_cvI (pc := 70) (h1 := hp (tri f0 (hsC (nhc (pb (o.2.2.2.2.2.2.2.2.2.2 sn) (upd f0 (45 + 4 * bn) (nI tq)) bn) (ix (o.2.2.2.2.2.2.2.2.2.1 sn)) 0) (upd (bcF f0 f1) (45 + 4 * bn + 0) (nI tq))) f2) o mf wf q) (x := rdN (o.2.2.2.2.2.2.2.2.2.2 sn) f0 (ix (o.2.2.2.2.2.2.2.2.2.1 sn)) bn tq) (M' := mX6_isTrueOf) dX6_read_70 lkX6_268 mcX6_isTrueOf hp_0 rfl (ev_X6_isTrueOf okp hsn hz0 hbn (by omega)) rfl rfl (Nat.le_of_ble_eq_true rfl) ?_
    refine xg_if_eq (pc := 73) (tgt := 79) dX6_read_73 (by decide) (fun c_73 => ?_) (fun c_73 => ?_)
    ·
      refine xg_iinc (pc := 79) (y := nI (tq + 1)) (ls' := [some (.ref 0), some (.int (nI sn)), some (.int (nI bn)), some (.int (sumI (rdN (o.2.2.2.2.2.2.2.2.2.2 sn) f0 (ix (o.2.2.2.2.2.2.2.2.2.1 sn)) bn) tq)), some (.int (nI (tq + 1)))]) dX6_read_79 rfl (xinc _) (by decide) rfl ?_
      refine xg_goto (pc := 82) (tgt := 53) dX6_read_82 (by decide) ?_
      have e1 : sumI (rdN (o.2.2.2.2.2.2.2.2.2.2 sn) f0 (ix (o.2.2.2.2.2.2.2.2.2.1 sn)) bn) (tq + 1) = sumI (rdN (o.2.2.2.2.2.2.2.2.2.2 sn) f0 (ix (o.2.2.2.2.2.2.2.2.2.1 sn)) bn) tq := by rw [sumI, c_73, Int32.add_zero]
      have z := ih (tq + 1) (by omega)
      rw [e1] at z
      exact z _
    ·
      refine xg_iinc (pc := 76) (y := (sumI (rdN (o.2.2.2.2.2.2.2.2.2.2 sn) f0 (ix (o.2.2.2.2.2.2.2.2.2.1 sn)) bn) tq) + 1) (ls' := [some (.ref 0), some (.int (nI sn)), some (.int (nI bn)), some (.int ((sumI (rdN (o.2.2.2.2.2.2.2.2.2.2 sn) f0 (ix (o.2.2.2.2.2.2.2.2.2.1 sn)) bn) tq) + 1)), some (.int (nI tq))]) dX6_read_76 rfl rfl (by decide) rfl ?_
      refine xg_iinc (pc := 79) (y := nI (tq + 1)) (ls' := [some (.ref 0), some (.int (nI sn)), some (.int (nI bn)), some (.int ((sumI (rdN (o.2.2.2.2.2.2.2.2.2.2 sn) f0 (ix (o.2.2.2.2.2.2.2.2.2.1 sn)) bn) tq) + 1)), some (.int (nI (tq + 1)))]) dX6_read_79 rfl (xinc _) (by decide) rfl ?_
      refine xg_goto (pc := 82) (tgt := 53) dX6_read_82 (by decide) ?_
      have e1 : sumI (rdN (o.2.2.2.2.2.2.2.2.2.2 sn) f0 (ix (o.2.2.2.2.2.2.2.2.2.1 sn)) bn) (tq + 1) = sumI (rdN (o.2.2.2.2.2.2.2.2.2.2 sn) f0 (ix (o.2.2.2.2.2.2.2.2.2.1 sn)) bn) tq + 1 := by rw [sumI, show rdN (o.2.2.2.2.2.2.2.2.2.2 sn) f0 (ix (o.2.2.2.2.2.2.2.2.2.1 sn)) bn tq = 1 from (al01 _ _).resolve_left c_73]
      have z := ih (tq + 1) (by omega)
      rw [e1] at z
      exact z _
set_option maxRecDepth 100000 in
set_option maxHeartbeats 4000000 in
theorem ev_X6_read {s b : Int32} (okp : okP f0) (okz : okS (oZ o)) : xEv X false (d + 7) 0 0 mX6_read [.ref 0, .int s, .int b] (hp (tri f0 f1 f2) o mf wf q) (CP mf wf q (c_read o f0 f2 s b)) := by
  have ok := okp.1.1
  have h5 := okp.h5
  refine xEv.of (ls := [some (.ref 0), some (.int s), some (.int b), none, none]) mcX6_read.1.2.2.2.2 (Nat.le_of_ble_eq_true rfl) rfl ?_
  refine xg_iload_n (pc := 0) dX6_read_0 rfl ?_
  refine xg_csI (pc := 1) (h1 := hp (tri f0 f1 f2) o mf wf q) (x := if 0 ≤ s ∧ s ≤ 3 then 1 else 0) (M' := mX6_isSheet) dX6_read_1 lkX6_230 mcX6_isSheet (ev_X6_isSheet) rfl rfl (Nat.le_of_ble_eq_true rfl) ?_
  refine xg_bnz (pc := 4) (tgt := 14) dX6_read_4 (by decide) (fun c_4 => ?_) (fun c_4 => ?_)
  ·
    obtain ⟨sn, hsn, rfl⟩ := sheet_n c_4
    have esn : ix (nI sn) = sn := nI_clamp (by omega)
    have hz0 := okz sn (by omega)
    have hz9 := hz0.2
    refine xg_aload_n (pc := 14) dX6_read_14 rfl ?_
    refine xg_get (pc := 15) dX6_read_15 flX6_44 hp_0 rfl ?_
    refine xg_iload_n (pc := 18) dX6_read_18 rfl ?_
    refine xg_aald (pc := 19) (r := 53 + 2 * sn) sn dX6_read_19 hp_52 (by decide) rfl (by omega) (by decide) (if_pos (by omega)) ?_
    refine xg_cvI (pc := 20) (h1 := hp (tri f0 f1 f2) o mf wf q) (x := if o.2.2.2.2.2.2.2.2.1 sn = 0 then 1 else 0) (M' := mX2_isMissing) dX6_read_20 lkX6_240 mcX2_isMissing (hp_sheet (by omega)) rfl (ev_X2_isMissing (by omega)) rfl rfl (Nat.le_of_ble_eq_true rfl) ?_
    refine xg_bz (pc := 23) (tgt := 33) dX6_read_23 (by decide) (fun c_23 => ?_) (fun c_23 => ?_)
    ·
      refine xg_aload_n (pc := 33) dX6_read_33 rfl ?_
      refine xg_iload_n (pc := 34) dX6_read_34 rfl ?_
      refine xg_cvI (pc := 35) (h1 := hp (tri f0 f1 f2) o mf wf q) (x := if 0 ≤ b ∧ b < f0 4 then 1 else 0) (M' := mX6_isBoat) dX6_read_35 lkX6_147 mcX6_isBoat hp_0 rfl (ev_X6_isBoat) rfl rfl (Nat.le_of_ble_eq_true rfl) ?_
      refine xg_bnz (pc := 38) (tgt := 48) dX6_read_38 (by decide) (fun c_38 => ?_) (fun c_38 => ?_)
      ·
        obtain ⟨bn, hbn, rfl⟩ := idxB ok c_38
        have ebn : ix (nI bn) = bn := nI_clamp (by omega)
        refine xg_iconst (v := 0) (pc := 48) dX6_read_48 (by decide) ?_
        refine xg_istore_n (pc := 49) (ls' := [some (.ref 0), some (.int (nI sn)), some (.int (nI bn)), some (.int 0), none]) dX6_read_49 (by decide) rfl ?_
        refine xg_iconst (v := 0) (pc := 50) dX6_read_50 (by decide) ?_
        refine xg_istore (pc := 51) (ls' := [some (.ref 0), some (.int (nI sn)), some (.int (nI bn)), some (.int 0), some (.int 0)]) dX6_read_51 (by decide) rfl ?_
        rw [show c_read o f0 f2 (nI sn) (nI bn) = (.int (sumI (rdN (o.2.2.2.2.2.2.2.2.2.2 sn) f0 (ix (o.2.2.2.2.2.2.2.2.2.1 sn)) bn) 48), o, f0, f2) from by unfold c_read; rw [if_pos c_4, esn, if_neg c_23, if_pos c_38, ebn]]
        exact lp_X6_read okp hsn hz0 hbn 48 0 rfl _
      ·
        refine xg_aload_n (pc := 41) dX6_read_41 rfl ?_
        refine xg_ldc (v := -1000000001) (pc := 42) dX6_read_42 ccX6_64 ?_
        refine xg_cvI (pc := 44) (h1 := hp (tri f0 f1 f2) (o.1, upd o.2.1 0 (o.2.1 0 + 1), o.2.2.1, o.2.2.2.1, o.2.2.2.2.1, o.2.2.2.2.2.1, o.2.2.2.2.2.2.1, o.2.2.2.2.2.2.2.1, o.2.2.2.2.2.2.2.2.1, o.2.2.2.2.2.2.2.2.2.1, o.2.2.2.2.2.2.2.2.2.2) mf wf q) (x := -1000000001) (M' := mX6_finding) dX6_read_44 lkX6_65 mcX6_finding hp_0 rfl (ev_X6_finding (j := 0) (by decide) (by decide)) rfl rfl (Nat.le_of_ble_eq_true rfl) ?_
        exact xg_iret (pc := 47) dX6_read_47 rfl (cpR (by exact (if_pos c_4).trans ((if_neg (by rw [esn]; exact c_23)).trans (if_neg c_38))))
    ·
      refine xg_aload_n (pc := 26) dX6_read_26 rfl ?_
      refine xg_ldc (v := -1000000006) (pc := 27) dX6_read_27 ccX6_244 ?_
      refine xg_cvI (pc := 29) (h1 := hp (tri f0 f1 f2) (o.1, upd o.2.1 5 (o.2.1 5 + 1), o.2.2.1, o.2.2.2.1, o.2.2.2.2.1, o.2.2.2.2.2.1, o.2.2.2.2.2.2.1, o.2.2.2.2.2.2.2.1, o.2.2.2.2.2.2.2.2.1, o.2.2.2.2.2.2.2.2.2.1, o.2.2.2.2.2.2.2.2.2.2) mf wf q) (x := -1000000006) (M' := mX6_finding) dX6_read_29 lkX6_65 mcX6_finding hp_0 rfl (ev_X6_finding (j := 5) (by decide) (by decide)) rfl rfl (Nat.le_of_ble_eq_true rfl) ?_
      exact xg_iret (pc := 32) dX6_read_32 rfl (cpR (by exact (if_pos c_4).trans (if_pos (by rw [esn]; exact c_23))))
  ·
    refine xg_aload_n (pc := 7) dX6_read_7 rfl ?_
    refine xg_ldc (v := -1000000001) (pc := 8) dX6_read_8 ccX6_64 ?_
    refine xg_cvI (pc := 10) (h1 := hp (tri f0 f1 f2) (o.1, upd o.2.1 0 (o.2.1 0 + 1), o.2.2.1, o.2.2.2.1, o.2.2.2.2.1, o.2.2.2.2.2.1, o.2.2.2.2.2.2.1, o.2.2.2.2.2.2.2.1, o.2.2.2.2.2.2.2.2.1, o.2.2.2.2.2.2.2.2.2.1, o.2.2.2.2.2.2.2.2.2.2) mf wf q) (x := -1000000001) (M' := mX6_finding) dX6_read_10 lkX6_65 mcX6_finding hp_0 rfl (ev_X6_finding (j := 0) (by decide) (by decide)) rfl rfl (Nat.le_of_ble_eq_true rfl) ?_
    exact xg_iret (pc := 13) dX6_read_13 rfl (cpR (by exact if_neg c_4))
set_option maxRecDepth 100000 in
theorem lp_X6_way {an bn : Nat} (han : an < 48) (hbn : bn < 48) : ∀ (k tq : Nat), tq + k = wyR an bn + 1 → xGo X false (d + 2) 0 0 mX6_way 49 [some (.ref 0), some (.int (nI an)), some (.int (nI bn)), some (.int (nI (wyL an bn))), some (.int (nI (wyR an bn))), some (.int (nI tq))] [] (hp (tri f0 f1 f2) o mf wf q) (CQ f2 o mf wf q (wyQ f0 (wyD an bn) (srch (rpl f0) k tq))) := by
  intro k
  induction k with
  | zero =>
    intro tq ht
    have hR : wyR an bn < 8 := by unfold wyR; omega
    have etq : tq = wyR an bn + 1 := by omega
    subst etq
    refine xg_iload (pc := 49) dX6_way_49 rfl ?_
    refine xg_iload (pc := 51) dX6_way_51 rfl ?_
    refine xg_icmp_gt (pc := 53) (tgt := 81) dX6_way_53 (by decide) (fun c_53 => ?_) (fun c_53 => absurd c_53 (fun q => q (nI_lt (by omega) (by omega))))
    refine xg_iload (pc := 81) dX6_way_81 rfl ?_
    refine xg_iload_n (pc := 83) dX6_way_83 rfl ?_
    refine xg_isub (pc := 84) dX6_way_84 ?_
    refine xg_eq (pk_sub (by unfold wyR wyL; omega)) ?_
    refine xg_iload_n (pc := 85) dX6_way_85 rfl ?_
    refine xg_bipush (v := 8) (pc := 86) dX6_way_86 (by decide) ?_
    refine xg_idiv (pc := 88) dX6_way_88 (by decide) ?_
    refine xg_eq (pk_div (d := 8) (by omega) (by decide) (by decide)) ?_
    refine xg_iload_n (pc := 89) dX6_way_89 rfl ?_
    refine xg_bipush (v := 8) (pc := 90) dX6_way_90 (by decide) ?_
    refine xg_idiv (pc := 92) dX6_way_92 (by decide) ?_
    refine xg_eq (pk_div (d := 8) (by omega) (by decide) (by decide)) ?_
    refine xg_isub (pc := 93) dX6_way_93 ?_
    refine xg_mabs (pc := 94) dX6_way_94 lkX6_217 mm_abs (Nat.le_of_ble_eq_true rfl) ?_
    refine xg_eq (abs_n (by omega) (by omega)) ?_
    refine xg_iadd (pc := 97) dX6_way_97 ?_
    refine xg_eq (nI_add _ _) ?_
    exact xg_iret (pc := 98) dX6_way_98 rfl (cqR (j := none) (by rfl))
  | succ k ih =>
    intro tq ht
    have hR : wyR an bn < 8 := by unfold wyR; omega
    refine xg_iload (pc := 49) dX6_way_49 rfl ?_
    refine xg_iload (pc := 51) dX6_way_51 rfl ?_
    refine xg_icmp_gt (pc := 53) (tgt := 81) dX6_way_53 (by decide) (fun c_53 => absurd c_53 (nI_nlt (by omega) (by omega))) (fun c_53 => ?_)
    refine xg_aload_n (pc := 56) dX6_way_56 rfl ?_
    refine xg_get (pc := 57) dX6_way_57 flX6_10 hp_0 rfl ?_
    refine xg_iload (pc := 60) dX6_way_60 rfl ?_
    refine xg_cvI (pc := 62) (h1 := hp (tri f0 f1 f2) o mf wf q) (x := if (f0 1 >>> ((nI tq) &&& 31)) &&& 1 = 1 then 1 else 0) (M' := mX1_hasRipples) dX6_way_62 lkX6_214 mcX1_hasRipples (hp_lake0 ) rfl (ev0_X1_hasRipples) rfl rfl (Nat.le_of_ble_eq_true rfl) ?_
    refine xg_bz (pc := 65) (tgt := 75) dX6_way_65 (by decide) (fun c_65 => ?_) (fun c_65 => ?_)
    ·
      refine xg_iinc (pc := 75) (y := nI (tq + 1)) (ls' := [some (.ref 0), some (.int (nI an)), some (.int (nI bn)), some (.int (nI (wyL an bn))), some (.int (nI (wyR an bn))), some (.int (nI (tq + 1)))]) dX6_way_75 rfl (xinc _) (by decide) rfl ?_
      refine xg_goto (pc := 78) (tgt := 49) dX6_way_78 (by decide) ?_
      rw [show srch (rpl f0) (k + 1) tq = srch (rpl f0) k (tq + 1) from if_neg c_65]
      exact ih (tq + 1) (by omega)
    ·
      refine xg_aload_n (pc := 68) dX6_way_68 rfl ?_
      refine xg_ldc (v := -1000000004) (pc := 69) dX6_way_69 ccX6_195 ?_
      refine xg_cvI (pc := 71) (h1 := hp (tri f0 f1 f2) (o.1, upd o.2.1 3 (o.2.1 3 + 1), o.2.2.1, o.2.2.2.1, o.2.2.2.2.1, o.2.2.2.2.2.1, o.2.2.2.2.2.2.1, o.2.2.2.2.2.2.2.1, o.2.2.2.2.2.2.2.2.1, o.2.2.2.2.2.2.2.2.2.1, o.2.2.2.2.2.2.2.2.2.2) mf wf q) (x := -1000000004) (M' := mX6_finding) dX6_way_71 lkX6_65 mcX6_finding hp_0 rfl (ev_X6_finding (j := 3) (by decide) (by decide)) rfl rfl (Nat.le_of_ble_eq_true rfl) ?_
      exact xg_iret (pc := 74) dX6_way_74 rfl (cqR (j := some 3) (by rw [srch, if_pos c_65]; rfl))
set_option maxRecDepth 100000 in
set_option maxHeartbeats 4000000 in
theorem ev_X6_way {a b : Int32}  : xEv X false (d + 2) 0 0 mX6_way [.ref 0, .int a, .int b] (hp (tri f0 f1 f2) o mf wf q) (CQ f2 o mf wf q (sp_way f0 a b)) := by
  refine xEv.of (ls := [some (.ref 0), some (.int a), some (.int b), none, none, none]) mcX6_way.1.2.2.2.2 (Nat.le_of_ble_eq_true rfl) rfl ?_
  refine xg_iload_n (pc := 0) dX6_way_0 rfl ?_
  refine xg_csI (pc := 1) (h1 := hp (tri f0 f1 f2) o mf wf q) (x := if 0 ≤ a ∧ a ≤ 47 then 1 else 0) (M' := mX6_isCell) dX6_way_1 lkX6_69 mcX6_isCell (ev_X6_isCell) rfl rfl (Nat.le_of_ble_eq_true rfl) ?_
  refine xg_bz (pc := 4) (tgt := 14) dX6_way_4 (by decide) (fun c_4 => ?_) (fun c_4 => ?_)
  ·
    refine xg_aload_n (pc := 14) dX6_way_14 rfl ?_
    refine xg_ldc (v := -1000000001) (pc := 15) dX6_way_15 ccX6_64 ?_
    refine xg_cvI (pc := 17) (h1 := hp (tri f0 f1 f2) (o.1, upd o.2.1 0 (o.2.1 0 + 1), o.2.2.1, o.2.2.2.1, o.2.2.2.2.1, o.2.2.2.2.2.1, o.2.2.2.2.2.2.1, o.2.2.2.2.2.2.2.1, o.2.2.2.2.2.2.2.2.1, o.2.2.2.2.2.2.2.2.2.1, o.2.2.2.2.2.2.2.2.2.2) mf wf q) (x := -1000000001) (M' := mX6_finding) dX6_way_17 lkX6_65 mcX6_finding hp_0 rfl (ev_X6_finding (j := 0) (by decide) (by decide)) rfl rfl (Nat.le_of_ble_eq_true rfl) ?_
    exact xg_iret (pc := 20) dX6_way_20 rfl (cqR (j := some 0) (if_neg (fun q => c_4 q.1)))
  ·
    refine xg_iload_n (pc := 7) dX6_way_7 rfl ?_
    refine xg_csI (pc := 8) (h1 := hp (tri f0 f1 f2) o mf wf q) (x := if 0 ≤ b ∧ b ≤ 47 then 1 else 0) (M' := mX6_isCell) dX6_way_8 lkX6_69 mcX6_isCell (ev_X6_isCell) rfl rfl (Nat.le_of_ble_eq_true rfl) ?_
    refine xg_bnz (pc := 11) (tgt := 21) dX6_way_11 (by decide) (fun c_11 => ?_) (fun c_11 => ?_)
    ·
      obtain ⟨an, han, rfl⟩ := cell_n c_4
      have ean : ix (nI an) = an := nI_clamp (by omega)
      obtain ⟨bn, hbn, rfl⟩ := cell_n c_11
      have ebn : ix (nI bn) = bn := nI_clamp (by omega)
      refine xg_iload_n (pc := 21) dX6_way_21 rfl ?_
      refine xg_bipush (v := 8) (pc := 22) dX6_way_22 (by decide) ?_
      refine xg_irem (pc := 24) dX6_way_24 (by decide) ?_
      refine xg_eq (rem_n (d := 8) (by omega) (by decide) (by decide)) ?_
      refine xg_iload_n (pc := 25) dX6_way_25 rfl ?_
      refine xg_bipush (v := 8) (pc := 26) dX6_way_26 (by decide) ?_
      refine xg_irem (pc := 28) dX6_way_28 (by decide) ?_
      refine xg_eq (rem_n (d := 8) (by omega) (by decide) (by decide)) ?_
      refine xg_mmin (pc := 29) dX6_way_29 lkX6_205 mm_min (Nat.le_of_ble_eq_true rfl) ?_
      refine xg_eq (mn2_n (by omega) (by omega)) ?_
      refine xg_istore_n (pc := 32) (ls' := [some (.ref 0), some (.int (nI an)), some (.int (nI bn)), some (.int (nI (wyL an bn))), none, none]) dX6_way_32 (by decide) rfl ?_
      refine xg_iload_n (pc := 33) dX6_way_33 rfl ?_
      refine xg_bipush (v := 8) (pc := 34) dX6_way_34 (by decide) ?_
      refine xg_irem (pc := 36) dX6_way_36 (by decide) ?_
      refine xg_eq (rem_n (d := 8) (by omega) (by decide) (by decide)) ?_
      refine xg_iload_n (pc := 37) dX6_way_37 rfl ?_
      refine xg_bipush (v := 8) (pc := 38) dX6_way_38 (by decide) ?_
      refine xg_irem (pc := 40) dX6_way_40 (by decide) ?_
      refine xg_eq (rem_n (d := 8) (by omega) (by decide) (by decide)) ?_
      refine xg_mmax (pc := 41) dX6_way_41 lkX6_211 mm_max (Nat.le_of_ble_eq_true rfl) ?_
      refine xg_eq (mx2_n (by omega) (by omega)) ?_
      refine xg_istore (pc := 44) (ls' := [some (.ref 0), some (.int (nI an)), some (.int (nI bn)), some (.int (nI (wyL an bn))), some (.int (nI (wyR an bn))), none]) dX6_way_44 (by decide) rfl ?_
      refine xg_iload_n (pc := 46) dX6_way_46 rfl ?_
      refine xg_istore (pc := 47) (ls' := [some (.ref 0), some (.int (nI an)), some (.int (nI bn)), some (.int (nI (wyL an bn))), some (.int (nI (wyR an bn))), some (.int (nI (wyL an bn)))]) dX6_way_47 (by decide) rfl ?_
      rw [show sp_way f0 (nI an) (nI bn) = wyQ f0 (wyD an bn) (srch (rpl f0) (wyR an bn + 1 - wyL an bn) (wyL an bn)) from by unfold sp_way; rw [if_pos ⟨c_4, c_11⟩, ean, ebn]]
      exact lp_X6_way han hbn (wyR an bn + 1 - wyL an bn) (wyL an bn) (by unfold wyL wyR; omega)
    ·
      refine xg_aload_n (pc := 14) dX6_way_14 rfl ?_
      refine xg_ldc (v := -1000000001) (pc := 15) dX6_way_15 ccX6_64 ?_
      refine xg_cvI (pc := 17) (h1 := hp (tri f0 f1 f2) (o.1, upd o.2.1 0 (o.2.1 0 + 1), o.2.2.1, o.2.2.2.1, o.2.2.2.2.1, o.2.2.2.2.2.1, o.2.2.2.2.2.2.1, o.2.2.2.2.2.2.2.1, o.2.2.2.2.2.2.2.2.1, o.2.2.2.2.2.2.2.2.2.1, o.2.2.2.2.2.2.2.2.2.2) mf wf q) (x := -1000000001) (M' := mX6_finding) dX6_way_17 lkX6_65 mcX6_finding hp_0 rfl (ev_X6_finding (j := 0) (by decide) (by decide)) rfl rfl (Nat.le_of_ble_eq_true rfl) ?_
      exact xg_iret (pc := 20) dX6_way_20 rfl (cqR (j := some 0) (if_neg (fun q => c_11 q.2)))
end
