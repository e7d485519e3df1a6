section
variable {X : xS} {d : Nat} {o : xO} {mf wf : Nat → Int32} {q : xQ} {f0 f1 f2 : Nat → Int32} {lk : Nat → Nat → Int32}
set_option maxRecDepth 100000 in
theorem ev_X2_isMissing {s : Nat} (hs : s < 4) : xDv X false (d + 0) mX2_isMissing [.ref (53 + 2 * s)] (hp lk o mf wf q) [.int (if o.2.2.2.2.2.2.2.2.1 s = 0 then 1 else 0)] (hp lk o mf wf q) := by
  refine xDv.of (ls := [some (.ref (53 + 2 * s))]) mcX2_isMissing.1.2.2.2.2 (Nat.le_of_ble_eq_true rfl) rfl ?_
  refine xg_aload_n (pc := 0) dX2_isMissing_0 rfl ?_
  refine xg_get (pc := 1) dX2_isMissing_1 flX2_15 (hp_sheet (by omega)) rfl ?_
  refine xg_if_ne (pc := 4) (tgt := 11) dX2_isMissing_4 (by decide) (fun c_4 => ?_) (fun c_4 => ?_)
  ·
    refine xg_iconst (v := 0) (pc := 11) dX2_isMissing_11 (by decide) ?_
    exact xg_zret (pc := 12) (ty := .boolean) dX2_isMissing_12 rfl rfl (⟨by simp [*], rfl⟩)
  ·
    refine xg_iconst (v := 1) (pc := 7) dX2_isMissing_7 (by decide) ?_
    refine xg_goto (pc := 8) (tgt := 12) dX2_isMissing_8 (by decide) ?_
    exact xg_zret (pc := 12) (ty := .boolean) dX2_isMissing_12 rfl rfl (⟨by simp [*], rfl⟩)
set_option maxRecDepth 100000 in
theorem ev_X2_hasRange {s : Nat} {a n : Int32} (hs : s < 4) : xDv X false (d + 0) mX2_hasRange [.ref (53 + 2 * s), .int a, .int n] (hp lk o mf wf q) [.int (if rgC a n (o.2.2.2.2.2.2.2.2.2.1 s) then 1 else 0)] (hp lk o mf wf q) := by
  refine xDv.of (ls := [some (.ref (53 + 2 * s)), some (.int a), some (.int n)]) mcX2_hasRange.1.2.2.2.2 (Nat.le_of_ble_eq_true rfl) rfl ?_
  refine xg_iload_n (pc := 0) dX2_hasRange_0 rfl ?_
  refine xg_if_lt (pc := 1) (tgt := 30) dX2_hasRange_1 (by decide) (fun c_1 => ?_) (fun c_1 => ?_)
  ·
    refine xg_iconst (v := 0) (pc := 30) dX2_hasRange_30 (by decide) ?_
    exact xg_zret (pc := 31) (ty := .boolean) dX2_hasRange_31 rfl rfl (⟨by (try simp only [rgC] at *); (try simp only [← Int32.not_le, ← Int64.not_le, Classical.not_not] at *); first | (simp [*]; done) | (simp_all; done) | (exfalso; simp only [Int32.lt_iff_toInt_lt, Int32.le_iff_toInt_le, Int32.not_lt, Int32.not_le, ← Int32.toInt_inj, Int64.lt_iff_toInt_lt, Int64.le_iff_toInt_le, Int64.not_lt, Int64.not_le, Classical.not_not, Int32.reduceToInt, Int64.reduceToInt] at *; omega), rfl⟩)
  ·
    refine xg_iload_n (pc := 4) dX2_hasRange_4 rfl ?_
    refine xg_if_lt (pc := 5) (tgt := 30) dX2_hasRange_5 (by decide) (fun c_5 => ?_) (fun c_5 => ?_)
    ·
      refine xg_iconst (v := 0) (pc := 30) dX2_hasRange_30 (by decide) ?_
      exact xg_zret (pc := 31) (ty := .boolean) dX2_hasRange_31 rfl rfl (⟨by (try simp only [rgC] at *); (try simp only [← Int32.not_le, ← Int64.not_le, Classical.not_not] at *); first | (simp [*]; done) | (simp_all; done) | (exfalso; simp only [Int32.lt_iff_toInt_lt, Int32.le_iff_toInt_le, Int32.not_lt, Int32.not_le, ← Int32.toInt_inj, Int64.lt_iff_toInt_lt, Int64.le_iff_toInt_le, Int64.not_lt, Int64.not_le, Classical.not_not, Int32.reduceToInt, Int64.reduceToInt] at *; omega), rfl⟩)
    ·
      refine xg_iload_n (pc := 8) dX2_hasRange_8 rfl ?_
      refine xg_aload_n (pc := 9) dX2_hasRange_9 rfl ?_
      refine xg_get (pc := 10) dX2_hasRange_10 flX2_19 (hp_sheet (by omega)) rfl ?_
      refine xg_icmp_gt (pc := 13) (tgt := 30) dX2_hasRange_13 (by decide) (fun c_13 => ?_) (fun c_13 => ?_)
      ·
        refine xg_iconst (v := 0) (pc := 30) dX2_hasRange_30 (by decide) ?_
        exact xg_zret (pc := 31) (ty := .boolean) dX2_hasRange_31 rfl rfl (⟨by (try simp only [rgC] at *); (try simp only [← Int32.not_le, ← Int64.not_le, Classical.not_not] at *); first | (simp [*]; done) | (simp_all; done) | (exfalso; simp only [Int32.lt_iff_toInt_lt, Int32.le_iff_toInt_le, Int32.not_lt, Int32.not_le, ← Int32.toInt_inj, Int64.lt_iff_toInt_lt, Int64.le_iff_toInt_le, Int64.not_lt, Int64.not_le, Classical.not_not, Int32.reduceToInt, Int64.reduceToInt] at *; omega), rfl⟩)
      ·
        refine xg_iload_n (pc := 16) dX2_hasRange_16 rfl ?_
        refine xg_aload_n (pc := 17) dX2_hasRange_17 rfl ?_
        refine xg_get (pc := 18) dX2_hasRange_18 flX2_19 (hp_sheet (by omega)) rfl ?_
        refine xg_iload_n (pc := 21) dX2_hasRange_21 rfl ?_
        refine xg_isub (pc := 22) dX2_hasRange_22 ?_
        refine xg_icmp_gt (pc := 23) (tgt := 30) dX2_hasRange_23 (by decide) (fun c_23 => ?_) (fun c_23 => ?_)
        ·
          refine xg_iconst (v := 0) (pc := 30) dX2_hasRange_30 (by decide) ?_
          exact xg_zret (pc := 31) (ty := .boolean) dX2_hasRange_31 rfl rfl (⟨by (try simp only [rgC] at *); (try simp only [← Int32.not_le, ← Int64.not_le, Classical.not_not] at *); first | (simp [*]; done) | (simp_all; done) | (exfalso; simp only [Int32.lt_iff_toInt_lt, Int32.le_iff_toInt_le, Int32.not_lt, Int32.not_le, ← Int32.toInt_inj, Int64.lt_iff_toInt_lt, Int64.le_iff_toInt_le, Int64.not_lt, Int64.not_le, Classical.not_not, Int32.reduceToInt, Int64.reduceToInt] at *; omega), rfl⟩)
        ·
          refine xg_iconst (v := 1) (pc := 26) dX2_hasRange_26 (by decide) ?_
          refine xg_goto (pc := 27) (tgt := 31) dX2_hasRange_27 (by decide) ?_
          exact xg_zret (pc := 31) (ty := .boolean) dX2_hasRange_31 rfl rfl (⟨by (try simp only [rgC] at *); (try simp only [← Int32.not_le, ← Int64.not_le, Classical.not_not] at *); first | (simp [*]; done) | (simp_all; done) | (exfalso; simp only [Int32.lt_iff_toInt_lt, Int32.le_iff_toInt_le, Int32.not_lt, Int32.not_le, ← Int32.toInt_inj, Int64.lt_iff_toInt_lt, Int64.le_iff_toInt_le, Int64.not_lt, Int64.not_le, Classical.not_not, Int32.reduceToInt, Int64.reduceToInt] at *; omega), rfl⟩)
set_option maxRecDepth 100000 in
theorem lp_X2_begin {s : Nat} {b n : Int32} (hs : s < 4) : ∀ (k tq : Nat), tq + k = 40 → xGo X false (d + 0) 0 0 mX2_begin 12 [some (.ref (53 + 2 * s)), some (.int b), some (.int n), some (.int (nI tq))] [] (hp lk (o.1, o.2.1, o.2.2.1, o.2.2.2.1, o.2.2.2.2.1, o.2.2.2.2.2.1, o.2.2.2.2.2.2.1, o.2.2.2.2.2.2.2.1, o.2.2.2.2.2.2.2.2.1, o.2.2.2.2.2.2.2.2.2.1, va_up o.2.2.2.2.2.2.2.2.2.2 s (zrL tq (o.2.2.2.2.2.2.2.2.2.2 s))) mf wf q) (fun v h' => v = [] ∧ h' = hp lk (o.1, o.2.1, o.2.2.1, o.2.2.2.1, o.2.2.2.2.1, o.2.2.2.2.2.1, o.2.2.2.2.2.2.1, o.2.2.2.2.2.2.2.1, o.2.2.2.2.2.2.2.2.1, o.2.2.2.2.2.2.2.2.2.1, va_up o.2.2.2.2.2.2.2.2.2.2 s (zrL 40 (o.2.2.2.2.2.2.2.2.2.2 s))) mf wf q) := by
  intro k
  induction k with
  | zero =>
    intro tq ht
    have etq : tq = 40 := by omega
    subst etq
    refine xg_iload_n (pc := 12) dX2_begin_12 rfl ?_
    refine xg_bipush (v := 40) (pc := 13) dX2_begin_13 (by decide) ?_
    refine xg_icmp_ge (pc := 15) (tgt := 31) dX2_begin_15 (by decide) (fun c_15 => ?_) (fun c_15 => absurd c_15 (by decide))
    exact xg_ret (pc := 31) dX2_begin_31 rfl (⟨rfl, rfl⟩)
  | succ k ih =>
    intro tq ht
    refine xg_iload_n (pc := 12) dX2_begin_12 rfl ?_
    refine xg_bipush (v := 40) (pc := 13) dX2_begin_13 (by decide) ?_
    refine xg_icmp_ge (pc := 15) (tgt := 31) dX2_begin_15 (by decide) (fun c_15 => absurd c_15 (nI_ge (b := 40) (by omega) (by omega))) (fun c_15 => ?_)
    refine xg_aload_n (pc := 18) dX2_begin_18 rfl ?_
    refine xg_get (pc := 19) dX2_begin_19 flX2_9 (hp_sheet (by omega)) rfl ?_
    refine xg_iload_n (pc := 22) dX2_begin_22 rfl ?_
    refine xg_lconst (v := 0) (pc := 23) dX2_begin_23 (by decide) ?_
    refine xg_last (pc := 24) (h' := hp lk (o.1, o.2.1, o.2.2.1, o.2.2.2.1, o.2.2.2.2.1, o.2.2.2.2.2.1, o.2.2.2.2.2.2.1, o.2.2.2.2.2.2.2.1, o.2.2.2.2.2.2.2.2.1, o.2.2.2.2.2.2.2.2.2.1, va_up (va_up o.2.2.2.2.2.2.2.2.2.2 s (zrL tq (o.2.2.2.2.2.2.2.2.2.2 s))) s (vp_updL ((va_up o.2.2.2.2.2.2.2.2.2.2 s (zrL tq (o.2.2.2.2.2.2.2.2.2.2 s))) s) tq 0)) mf wf q) tq dX2_begin_24 (hp_nums (by omega)) rfl (by omega) (by decide) (hs_sn (by omega)) ?_
    refine xg_iinc (pc := 25) (y := nI (tq + 1)) (ls' := [some (.ref (53 + 2 * s)), some (.int b), some (.int n), some (.int (nI (tq + 1)))]) dX2_begin_25 rfl (xinc _) (by decide) rfl ?_
    refine xg_goto (pc := 28) (tgt := 12) dX2_begin_28 (by decide) ?_
    rw [show va_up (va_up o.2.2.2.2.2.2.2.2.2.2 s (zrL tq (o.2.2.2.2.2.2.2.2.2.2 s))) s (vp_updL ((va_up o.2.2.2.2.2.2.2.2.2.2 s (zrL tq (o.2.2.2.2.2.2.2.2.2.2 s))) s) tq 0) = va_up o.2.2.2.2.2.2.2.2.2.2 s (zrL (tq + 1) (o.2.2.2.2.2.2.2.2.2.2 s)) from by rw [va_up_up, va_up_at, zrL_s]]
    exact ih (tq + 1) (by omega)
set_option maxRecDepth 100000 in
theorem ev_X2_begin {s : Nat} {b n : Int32} (hs : s < 4) : xDv X false (d + 0) mX2_begin [.ref (53 + 2 * s), .int b, .int n] (hp lk o mf wf q) [] (hp lk (o.1, o.2.1, o.2.2.1, o.2.2.2.1, o.2.2.2.2.1, o.2.2.2.2.2.1, o.2.2.2.2.2.2.1, o.2.2.2.2.2.2.2.1, upd o.2.2.2.2.2.2.2.2.1 s b, upd o.2.2.2.2.2.2.2.2.2.1 s n, va_up o.2.2.2.2.2.2.2.2.2.2 s (zrL 40 (o.2.2.2.2.2.2.2.2.2.2 s))) mf wf q) := by
  refine xDv.of (ls := [some (.ref (53 + 2 * s)), some (.int b), some (.int n), none]) mcX2_begin.1.2.2.2.2 (Nat.le_of_ble_eq_true rfl) rfl ?_
  refine xg_aload_n (pc := 0) dX2_begin_0 rfl ?_
  refine xg_iload_n (pc := 1) dX2_begin_1 rfl ?_
  refine xg_puti (pc := 2) (h' := hp lk (o.1, o.2.1, o.2.2.1, o.2.2.2.1, o.2.2.2.2.1, o.2.2.2.2.2.1, o.2.2.2.2.2.2.1, o.2.2.2.2.2.2.2.1, upd o.2.2.2.2.2.2.2.2.1 s b, o.2.2.2.2.2.2.2.2.2.1, o.2.2.2.2.2.2.2.2.2.2) mf wf q) dX2_begin_2 flX2_15 (hp_sheet (by omega)) (Nat.le_of_ble_eq_true rfl) (hs_sb (by omega)) ?_
  refine xg_aload_n (pc := 5) dX2_begin_5 rfl ?_
  refine xg_iload_n (pc := 6) dX2_begin_6 rfl ?_
  refine xg_puti (pc := 7) (h' := hp lk (o.1, o.2.1, o.2.2.1, o.2.2.2.1, o.2.2.2.2.1, o.2.2.2.2.2.1, o.2.2.2.2.2.2.1, o.2.2.2.2.2.2.2.1, upd o.2.2.2.2.2.2.2.2.1 s b, upd o.2.2.2.2.2.2.2.2.2.1 s n, o.2.2.2.2.2.2.2.2.2.2) mf wf q) dX2_begin_7 flX2_19 (hp_sheet (by omega)) (Nat.le_of_ble_eq_true rfl) (hs_ss (by omega)) ?_
  refine xg_iconst (v := 0) (pc := 10) dX2_begin_10 (by decide) ?_
  refine xg_istore_n (pc := 11) (ls' := [some (.ref (53 + 2 * s)), some (.int b), some (.int n), some (.int 0)]) dX2_begin_11 (by decide) rfl ?_
  have z := lp_X2_begin (X := X) (d := d) (lk := lk) (o := (o.1, o.2.1, o.2.2.1, o.2.2.2.1, o.2.2.2.2.1, o.2.2.2.2.2.1, o.2.2.2.2.2.2.1, o.2.2.2.2.2.2.2.1, upd o.2.2.2.2.2.2.2.2.1 s b, upd o.2.2.2.2.2.2.2.2.2.1 s n, o.2.2.2.2.2.2.2.2.2.2)) (mf := mf) (wf := wf) (q := q) (b := b) (n := n) hs 40 0 rfl
  rw [show va_up o.2.2.2.2.2.2.2.2.2.2 s (zrL 0 (o.2.2.2.2.2.2.2.2.2.2 s)) = o.2.2.2.2.2.2.2.2.2.2 from by rw [zrL_0, va_up_id]] at z
  exact z
set_option maxRecDepth 100000 in
theorem ev_X2_put {s i z : Nat} {v : Int64} (hs : s < 4) (hz : o.2.2.2.2.2.2.2.2.2.1 s = nI z) (hi : i < z) (hz4 : z ≤ 40) : xDv X false (d + 0) mX2_put [.ref (53 + 2 * s), .int (nI i), .long v] (hp lk o mf wf q) [] (hp lk (o.1, o.2.1, o.2.2.1, o.2.2.2.1, o.2.2.2.2.1, o.2.2.2.2.2.1, o.2.2.2.2.2.2.1, o.2.2.2.2.2.2.2.1, o.2.2.2.2.2.2.2.2.1, o.2.2.2.2.2.2.2.2.2.1, va_up o.2.2.2.2.2.2.2.2.2.2 s (vp_updL (o.2.2.2.2.2.2.2.2.2.2 s) i (cut (o.2.2.2.2.2.2.2.2.1 s) v))) mf wf q) := by
  refine xDv.of (ls := [some (.ref (53 + 2 * s)), some (.int (nI i)), some (.long v), none]) mcX2_put.1.2.2.2.2 (Nat.le_of_ble_eq_true rfl) rfl ?_
  refine xg_iload_n (pc := 0) dX2_put_0 rfl ?_
  refine xg_if_lt (pc := 1) (tgt := 12) dX2_put_1 (by decide) (fun c_1 => absurd c_1 (nI_pos (by omega))) (fun c_1 => ?_)
  refine xg_iload_n (pc := 4) dX2_put_4 rfl ?_
  refine xg_aload_n (pc := 5) dX2_put_5 rfl ?_
  refine xg_get (pc := 6) dX2_put_6 flX2_19 (hp_sheet (by omega)) rfl ?_
  refine xg_eq hz ?_
  refine xg_icmp_lt (pc := 9) (tgt := 13) dX2_put_9 (by decide) (fun c_9 => ?_) (fun c_9 => absurd c_9 (fun q => q (nI_lt (by omega) (by omega))))
  refine xg_aload_n (pc := 13) dX2_put_13 rfl ?_
  refine xg_get (pc := 14) dX2_put_14 flX2_15 (hp_sheet (by omega)) rfl ?_
  refine xg_bipush (v := 8) (pc := 17) dX2_put_17 (by decide) ?_
  refine xg_icmp_ne (pc := 19) (tgt := 35) dX2_put_19 (by decide) (fun c_19 => ?_) (fun c_19 => ?_)
  ·
    refine xg_aload_n (pc := 35) dX2_put_35 rfl ?_
    refine xg_get (pc := 36) dX2_put_36 flX2_15 (hp_sheet (by omega)) rfl ?_
    refine xg_bipush (v := 16) (pc := 39) dX2_put_39 (by decide) ?_
    refine xg_icmp_ne (pc := 41) (tgt := 57) dX2_put_41 (by decide) (fun c_41 => ?_) (fun c_41 => ?_)
    ·
      refine xg_aload_n (pc := 57) dX2_put_57 rfl ?_
      refine xg_get (pc := 58) dX2_put_58 flX2_9 (hp_sheet (by omega)) rfl ?_
      refine xg_iload_n (pc := 61) dX2_put_61 rfl ?_
      refine xg_lload_n (pc := 62) dX2_put_62 rfl ?_
      refine xg_last (pc := 63) (h' := hp lk (o.1, o.2.1, o.2.2.1, o.2.2.2.1, o.2.2.2.2.1, o.2.2.2.2.2.1, o.2.2.2.2.2.2.1, o.2.2.2.2.2.2.2.1, o.2.2.2.2.2.2.2.2.1, o.2.2.2.2.2.2.2.2.2.1, va_up o.2.2.2.2.2.2.2.2.2.2 s (vp_updL (o.2.2.2.2.2.2.2.2.2.2 s) i v)) mf wf q) i dX2_put_63 (hp_nums (by omega)) rfl (by omega) (by decide) (hs_sn (by omega)) ?_
      exact xg_ret (pc := 64) dX2_put_64 rfl (⟨rfl, by simp only [cut]; first | rw [if_pos c_19] | rw [if_neg c_19, if_pos c_41] | rw [if_neg c_19, if_neg c_41]⟩)
    ·
      refine xg_aload_n (pc := 44) dX2_put_44 rfl ?_
      refine xg_get (pc := 45) dX2_put_45 flX2_9 (hp_sheet (by omega)) rfl ?_
      refine xg_iload_n (pc := 48) dX2_put_48 rfl ?_
      refine xg_lload_n (pc := 49) dX2_put_49 rfl ?_
      refine xg_l2i (pc := 50) dX2_put_50 ?_
      refine xg_i2s (pc := 51) dX2_put_51 ?_
      refine xg_i2l (pc := 52) dX2_put_52 ?_
      refine xg_last (pc := 53) (h' := hp lk (o.1, o.2.1, o.2.2.1, o.2.2.2.1, o.2.2.2.2.1, o.2.2.2.2.2.1, o.2.2.2.2.2.2.1, o.2.2.2.2.2.2.2.1, o.2.2.2.2.2.2.2.2.1, o.2.2.2.2.2.2.2.2.2.1, va_up o.2.2.2.2.2.2.2.2.2.2 s (vp_updL (o.2.2.2.2.2.2.2.2.2.2 s) i (Int32.toInt64 ((Int32.toInt16 (Int64.toInt32 v)).toInt32)))) mf wf q) i dX2_put_53 (hp_nums (by omega)) rfl (by omega) (by decide) (hs_sn (by omega)) ?_
      refine xg_goto (pc := 54) (tgt := 64) dX2_put_54 (by decide) ?_
      exact xg_ret (pc := 64) dX2_put_64 rfl (⟨rfl, by simp only [cut]; first | rw [if_pos c_19] | rw [if_neg c_19, if_pos c_41] | rw [if_neg c_19, if_neg c_41]⟩)
  ·
    refine xg_aload_n (pc := 22) dX2_put_22 rfl ?_
    refine xg_get (pc := 23) dX2_put_23 flX2_9 (hp_sheet (by omega)) rfl ?_
    refine xg_iload_n (pc := 26) dX2_put_26 rfl ?_
    refine xg_lload_n (pc := 27) dX2_put_27 rfl ?_
    refine xg_l2i (pc := 28) dX2_put_28 ?_
    refine xg_i2b (pc := 29) dX2_put_29 ?_
    refine xg_i2l (pc := 30) dX2_put_30 ?_
    refine xg_last (pc := 31) (h' := hp lk (o.1, o.2.1, o.2.2.1, o.2.2.2.1, o.2.2.2.2.1, o.2.2.2.2.2.1, o.2.2.2.2.2.2.1, o.2.2.2.2.2.2.2.1, o.2.2.2.2.2.2.2.2.1, o.2.2.2.2.2.2.2.2.2.1, va_up o.2.2.2.2.2.2.2.2.2.2 s (vp_updL (o.2.2.2.2.2.2.2.2.2.2 s) i (Int32.toInt64 ((Int32.toInt8 (Int64.toInt32 v)).toInt32)))) mf wf q) i dX2_put_31 (hp_nums (by omega)) rfl (by omega) (by decide) (hs_sn (by omega)) ?_
    refine xg_goto (pc := 32) (tgt := 64) dX2_put_32 (by decide) ?_
    exact xg_ret (pc := 64) dX2_put_64 rfl (⟨rfl, by simp only [cut]; first | rw [if_pos c_19] | rw [if_neg c_19, if_pos c_41] | rw [if_neg c_19, if_neg c_41]⟩)
set_option maxRecDepth 100000 in
set_option maxHeartbeats 4000000 in
theorem ev_X6_sheet {s b n : Int32}  : xEv X false (d + 2) 0 0 mX6_sheet [.ref 0, .int s, .int b, .int n] (hp (tri f0 f1 f2) o mf wf q) (CP mf wf q (c_sheet o f0 f2 s b n)) := by
  refine xEv.of (ls := [some (.ref 0), some (.int s), some (.int b), some (.int n)]) mcX6_sheet.1.2.2.2.2 (Nat.le_of_ble_eq_true rfl) rfl ?_
  refine xg_iload_n (pc := 0) dX6_sheet_0 rfl ?_
  refine xg_csI (pc := 1) (h1 := hp (tri f0 f1 f2) o mf wf q) (x := if 0 ≤ s ∧ s ≤ 3 then 1 else 0) (M' := mX6_isSheet) dX6_sheet_1 lkX6_230 mcX6_isSheet (ev_X6_isSheet) rfl rfl (Nat.le_of_ble_eq_true rfl) ?_
  refine xg_bz (pc := 4) (tgt := 29) dX6_sheet_4 (by decide) (fun c_4 => ?_) (fun c_4 => ?_)
  ·
    refine xg_aload_n (pc := 29) dX6_sheet_29 rfl ?_
    refine xg_ldc (v := -1000000001) (pc := 30) dX6_sheet_30 ccX6_64 ?_
    refine xg_cvI (pc := 32) (h1 := hp (tri f0 f1 f2) (o.1, upd o.2.1 0 (o.2.1 0 + 1), o.2.2.1, o.2.2.2.1, o.2.2.2.2.1, o.2.2.2.2.2.1, o.2.2.2.2.2.2.1, o.2.2.2.2.2.2.2.1, o.2.2.2.2.2.2.2.2.1, o.2.2.2.2.2.2.2.2.2.1, o.2.2.2.2.2.2.2.2.2.2) mf wf q) (x := -1000000001) (M' := mX6_finding) dX6_sheet_32 lkX6_65 mcX6_finding hp_0 rfl (ev_X6_finding (j := 0) (by decide) (by decide)) rfl rfl (Nat.le_of_ble_eq_true rfl) ?_
    exact xg_iret (pc := 35) dX6_sheet_35 rfl (cpR (by exact if_neg (fun q => c_4 q.1)))
  ·
    refine xg_iload_n (pc := 7) dX6_sheet_7 rfl ?_
    refine xg_if_eq (pc := 8) (tgt := 36) dX6_sheet_8 (by decide) (fun c_8 => ?_) (fun c_8 => ?_)
    ·
      refine xg_iload_n (pc := 36) dX6_sheet_36 rfl ?_
      refine xg_if_ge (pc := 37) (tgt := 47) dX6_sheet_37 (by decide) (fun c_37 => ?_) (fun c_37 => ?_)
      ·
        refine xg_iload_n (pc := 47) dX6_sheet_47 rfl ?_
        refine xg_bipush (v := 40) (pc := 48) dX6_sheet_48 (by decide) ?_
        refine xg_icmp_le (pc := 50) (tgt := 60) dX6_sheet_50 (by decide) (fun c_50 => ?_) (fun c_50 => ?_)
        ·
          obtain ⟨sn, hsn, rfl⟩ := sheet_n c_4
          have esn : ix (nI sn) = sn := nI_clamp (by omega)
          refine xg_aload_n (pc := 60) dX6_sheet_60 rfl ?_
          refine xg_get (pc := 61) dX6_sheet_61 flX6_44 hp_0 rfl ?_
          refine xg_iload_n (pc := 64) dX6_sheet_64 rfl ?_
          refine xg_aald (pc := 65) (r := 53 + 2 * sn) sn dX6_sheet_65 hp_52 (by decide) rfl (by omega) (by decide) (if_pos (by omega)) ?_
          refine xg_iload_n (pc := 66) dX6_sheet_66 rfl ?_
          refine xg_iload_n (pc := 67) dX6_sheet_67 rfl ?_
          refine xg_if_ne (pc := 68) (tgt := 75) dX6_sheet_68 (by decide) (fun c_68 => ?_) (fun c_68 => ?_)
          ·
            refine xg_iload_n (pc := 75) dX6_sheet_75 rfl ?_
            refine xg_cvV (pc := 76) (h1 := hp (tri f0 f1 f2) (o.1, o.2.1, o.2.2.1, o.2.2.2.1, o.2.2.2.2.1, o.2.2.2.2.2.1, o.2.2.2.2.2.2.1, o.2.2.2.2.2.2.2.1, upd o.2.2.2.2.2.2.2.2.1 sn b, upd o.2.2.2.2.2.2.2.2.2.1 sn n, va_up o.2.2.2.2.2.2.2.2.2.2 sn (zrL 40 (o.2.2.2.2.2.2.2.2.2.2 sn))) mf wf q) (M' := mX2_begin) dX6_sheet_76 lkX6_234 mcX2_begin (hp_sheet (by omega)) rfl (ev_X2_begin (by omega)) rfl rfl (Nat.le_of_ble_eq_true rfl) ?_
            refine xg_aload_n (pc := 79) dX6_sheet_79 rfl ?_
            refine xg_get (pc := 80) dX6_sheet_80 flX6_44 hp_0 rfl ?_
            refine xg_iload_n (pc := 83) dX6_sheet_83 rfl ?_
            refine xg_aald (pc := 84) (r := 53 + 2 * sn) sn dX6_sheet_84 hp_52 (by decide) rfl (by omega) (by decide) (if_pos (by omega)) ?_
            refine xg_get (pc := 85) dX6_sheet_85 flX6_237 (hp_sheet (by omega)) rfl ?_
            refine xg_eq pk_us ?_
            exact xg_iret (pc := 88) dX6_sheet_88 rfl (cpR (by refine (if_pos ⟨c_4, by first | exact Or.inl c_8 | exact Or.inr (Or.inl c_14) | exact Or.inr (Or.inr (Or.inl c_20)) | exact Or.inr (Or.inr (Or.inr c_26))⟩).trans ((if_neg (Int32.not_lt.mpr c_37)).trans ((if_pos c_50).trans ?_)); rw [esn]; first | (rw [if_pos c_68]; rfl) | (rw [if_neg c_68]; rfl)))
          ·
            refine xg_iconst (v := 0) (pc := 71) dX6_sheet_71 (by decide) ?_
            refine xg_goto (pc := 72) (tgt := 76) dX6_sheet_72 (by decide) ?_
            refine xg_cvV (pc := 76) (h1 := hp (tri f0 f1 f2) (o.1, o.2.1, o.2.2.1, o.2.2.2.1, o.2.2.2.2.1, o.2.2.2.2.2.1, o.2.2.2.2.2.2.1, o.2.2.2.2.2.2.2.1, upd o.2.2.2.2.2.2.2.2.1 sn b, upd o.2.2.2.2.2.2.2.2.2.1 sn 0, va_up o.2.2.2.2.2.2.2.2.2.2 sn (zrL 40 (o.2.2.2.2.2.2.2.2.2.2 sn))) mf wf q) (M' := mX2_begin) dX6_sheet_76 lkX6_234 mcX2_begin (hp_sheet (by omega)) rfl (ev_X2_begin (by omega)) rfl rfl (Nat.le_of_ble_eq_true rfl) ?_
            refine xg_aload_n (pc := 79) dX6_sheet_79 rfl ?_
            refine xg_get (pc := 80) dX6_sheet_80 flX6_44 hp_0 rfl ?_
            refine xg_iload_n (pc := 83) dX6_sheet_83 rfl ?_
            refine xg_aald (pc := 84) (r := 53 + 2 * sn) sn dX6_sheet_84 hp_52 (by decide) rfl (by omega) (by decide) (if_pos (by omega)) ?_
            refine xg_get (pc := 85) dX6_sheet_85 flX6_237 (hp_sheet (by omega)) rfl ?_
            refine xg_eq pk_us ?_
            exact xg_iret (pc := 88) dX6_sheet_88 rfl (cpR (by refine (if_pos ⟨c_4, by first | exact Or.inl c_8 | exact Or.inr (Or.inl c_14) | exact Or.inr (Or.inr (Or.inl c_20)) | exact Or.inr (Or.inr (Or.inr c_26))⟩).trans ((if_neg (Int32.not_lt.mpr c_37)).trans ((if_pos c_50).trans ?_)); rw [esn]; first | (rw [if_pos c_68]; rfl) | (rw [if_neg c_68]; rfl)))
        ·
          refine xg_aload_n (pc := 53) dX6_sheet_53 rfl ?_
          refine xg_ldc (v := -1000000001) (pc := 54) dX6_sheet_54 ccX6_64 ?_
          refine xg_cvI (pc := 56) (h1 := hp (tri f0 f1 f2) (o.1, upd o.2.1 0 (o.2.1 0 + 1), o.2.2.1, o.2.2.2.1, o.2.2.2.2.1, o.2.2.2.2.2.1, o.2.2.2.2.2.2.1, o.2.2.2.2.2.2.2.1, o.2.2.2.2.2.2.2.2.1, o.2.2.2.2.2.2.2.2.2.1, o.2.2.2.2.2.2.2.2.2.2) mf wf q) (x := -1000000001) (M' := mX6_finding) dX6_sheet_56 lkX6_65 mcX6_finding hp_0 rfl (ev_X6_finding (j := 0) (by decide) (by decide)) rfl rfl (Nat.le_of_ble_eq_true rfl) ?_
          exact xg_iret (pc := 59) dX6_sheet_59 rfl (cpR (by exact (if_pos ⟨c_4, by first | exact Or.inl c_8 | exact Or.inr (Or.inl c_14) | exact Or.inr (Or.inr (Or.inl c_20)) | exact Or.inr (Or.inr (Or.inr c_26))⟩).trans ((if_neg (Int32.not_lt.mpr (Classical.not_not.mp (fun z => z c_37)))).trans (if_neg c_50))))
      ·
        refine xg_aload_n (pc := 40) dX6_sheet_40 rfl ?_
        refine xg_ldc (v := -1000000007) (pc := 41) dX6_sheet_41 ccX6_233 ?_
        refine xg_cvI (pc := 43) (h1 := hp (tri f0 f1 f2) (o.1, upd o.2.1 6 (o.2.1 6 + 1), o.2.2.1, o.2.2.2.1, o.2.2.2.2.1, o.2.2.2.2.2.1, o.2.2.2.2.2.2.1, o.2.2.2.2.2.2.2.1, o.2.2.2.2.2.2.2.2.1, o.2.2.2.2.2.2.2.2.2.1, o.2.2.2.2.2.2.2.2.2.2) mf wf q) (x := -1000000007) (M' := mX6_finding) dX6_sheet_43 lkX6_65 mcX6_finding hp_0 rfl (ev_X6_finding (j := 6) (by decide) (by decide)) rfl rfl (Nat.le_of_ble_eq_true rfl) ?_
        exact xg_iret (pc := 46) dX6_sheet_46 rfl (cpR (by exact (if_pos ⟨c_4, by first | exact Or.inl c_8 | exact Or.inr (Or.inl c_14) | exact Or.inr (Or.inr (Or.inl c_20)) | exact Or.inr (Or.inr (Or.inr c_26))⟩).trans (if_pos (Int32.not_le.mp c_37))))
    ·
      refine xg_iload_n (pc := 11) dX6_sheet_11 rfl ?_
      refine xg_bipush (v := 8) (pc := 12) dX6_sheet_12 (by decide) ?_
      refine xg_icmp_eq (pc := 14) (tgt := 36) dX6_sheet_14 (by decide) (fun c_14 => ?_) (fun c_14 => ?_)
      ·
        refine xg_iload_n (pc := 36) dX6_sheet_36 rfl ?_
        refine xg_if_ge (pc := 37) (tgt := 47) dX6_sheet_37 (by decide) (fun c_37 => ?_) (fun c_37 => ?_)
        ·
          refine xg_iload_n (pc := 47) dX6_sheet_47 rfl ?_
          refine xg_bipush (v := 40) (pc := 48) dX6_sheet_48 (by decide) ?_
          refine xg_icmp_le (pc := 50) (tgt := 60) dX6_sheet_50 (by decide) (fun c_50 => ?_) (fun c_50 => ?_)
          ·
            obtain ⟨sn, hsn, rfl⟩ := sheet_n c_4
            have esn : ix (nI sn) = sn := nI_clamp (by omega)
            refine xg_aload_n (pc := 60) dX6_sheet_60 rfl ?_
            refine xg_get (pc := 61) dX6_sheet_61 flX6_44 hp_0 rfl ?_
            refine xg_iload_n (pc := 64) dX6_sheet_64 rfl ?_
            refine xg_aald (pc := 65) (r := 53 + 2 * sn) sn dX6_sheet_65 hp_52 (by decide) rfl (by omega) (by decide) (if_pos (by omega)) ?_
            refine xg_iload_n (pc := 66) dX6_sheet_66 rfl ?_
            refine xg_iload_n (pc := 67) dX6_sheet_67 rfl ?_
            refine xg_if_ne (pc := 68) (tgt := 75) dX6_sheet_68 (by decide) (fun c_68 => ?_) (fun c_68 => ?_)
            ·
              refine xg_iload_n (pc := 75) dX6_sheet_75 rfl ?_
              refine xg_cvV (pc := 76) (h1 := hp (tri f0 f1 f2) (o.1, o.2.1, o.2.2.1, o.2.2.2.1, o.2.2.2.2.1, o.2.2.2.2.2.1, o.2.2.2.2.2.2.1, o.2.2.2.2.2.2.2.1, upd o.2.2.2.2.2.2.2.2.1 sn b, upd o.2.2.2.2.2.2.2.2.2.1 sn n, va_up o.2.2.2.2.2.2.2.2.2.2 sn (zrL 40 (o.2.2.2.2.2.2.2.2.2.2 sn))) mf wf q) (M' := mX2_begin) dX6_sheet_76 lkX6_234 mcX2_begin (hp_sheet (by omega)) rfl (ev_X2_begin (by omega)) rfl rfl (Nat.le_of_ble_eq_true rfl) ?_
              refine xg_aload_n (pc := 79) dX6_sheet_79 rfl ?_
              refine xg_get (pc := 80) dX6_sheet_80 flX6_44 hp_0 rfl ?_
              refine xg_iload_n (pc := 83) dX6_sheet_83 rfl ?_
              refine xg_aald (pc := 84) (r := 53 + 2 * sn) sn dX6_sheet_84 hp_52 (by decide) rfl (by omega) (by decide) (if_pos (by omega)) ?_
              refine xg_get (pc := 85) dX6_sheet_85 flX6_237 (hp_sheet (by omega)) rfl ?_
              refine xg_eq pk_us ?_
              exact xg_iret (pc := 88) dX6_sheet_88 rfl (cpR (by refine (if_pos ⟨c_4, by first | exact Or.inl c_8 | exact Or.inr (Or.inl c_14) | exact Or.inr (Or.inr (Or.inl c_20)) | exact Or.inr (Or.inr (Or.inr c_26))⟩).trans ((if_neg (Int32.not_lt.mpr c_37)).trans ((if_pos c_50).trans ?_)); rw [esn]; first | (rw [if_pos c_68]; rfl) | (rw [if_neg c_68]; rfl)))
            ·
              refine xg_iconst (v := 0) (pc := 71) dX6_sheet_71 (by decide) ?_
              refine xg_goto (pc := 72) (tgt := 76) dX6_sheet_72 (by decide) ?_
              refine xg_cvV (pc := 76) (h1 := hp (tri f0 f1 f2) (o.1, o.2.1, o.2.2.1, o.2.2.2.1, o.2.2.2.2.1, o.2.2.2.2.2.1, o.2.2.2.2.2.2.1, o.2.2.2.2.2.2.2.1, upd o.2.2.2.2.2.2.2.2.1 sn b, upd o.2.2.2.2.2.2.2.2.2.1 sn 0, va_up o.2.2.2.2.2.2.2.2.2.2 sn (zrL 40 (o.2.2.2.2.2.2.2.2.2.2 sn))) mf wf q) (M' := mX2_begin) dX6_sheet_76 lkX6_234 mcX2_begin (hp_sheet (by omega)) rfl (ev_X2_begin (by omega)) rfl rfl (Nat.le_of_ble_eq_true rfl) ?_
              refine xg_aload_n (pc := 79) dX6_sheet_79 rfl ?_
              refine xg_get (pc := 80) dX6_sheet_80 flX6_44 hp_0 rfl ?_
              refine xg_iload_n (pc := 83) dX6_sheet_83 rfl ?_
              refine xg_aald (pc := 84) (r := 53 + 2 * sn) sn dX6_sheet_84 hp_52 (by decide) rfl (by omega) (by decide) (if_pos (by omega)) ?_
              refine xg_get (pc := 85) dX6_sheet_85 flX6_237 (hp_sheet (by omega)) rfl ?_
              refine xg_eq pk_us ?_
              exact xg_iret (pc := 88) dX6_sheet_88 rfl (cpR (by refine (if_pos ⟨c_4, by first | exact Or.inl c_8 | exact Or.inr (Or.inl c_14) | exact Or.inr (Or.inr (Or.inl c_20)) | exact Or.inr (Or.inr (Or.inr c_26))⟩).trans ((if_neg (Int32.not_lt.mpr c_37)).trans ((if_pos c_50).trans ?_)); rw [esn]; first | (rw [if_pos c_68]; rfl) | (rw [if_neg c_68]; rfl)))
          ·
            refine xg_aload_n (pc := 53) dX6_sheet_53 rfl ?_
            refine xg_ldc (v := -1000000001) (pc := 54) dX6_sheet_54 ccX6_64 ?_
            refine xg_cvI (pc := 56) (h1 := hp (tri f0 f1 f2) (o.1, upd o.2.1 0 (o.2.1 0 + 1), o.2.2.1, o.2.2.2.1, o.2.2.2.2.1, o.2.2.2.2.2.1, o.2.2.2.2.2.2.1, o.2.2.2.2.2.2.2.1, o.2.2.2.2.2.2.2.2.1, o.2.2.2.2.2.2.2.2.2.1, o.2.2.2.2.2.2.2.2.2.2) mf wf q) (x := -1000000001) (M' := mX6_finding) dX6_sheet_56 lkX6_65 mcX6_finding hp_0 rfl (ev_X6_finding (j := 0) (by decide) (by decide)) rfl rfl (Nat.le_of_ble_eq_true rfl) ?_
            exact xg_iret (pc := 59) dX6_sheet_59 rfl (cpR (by exact (if_pos ⟨c_4, by first | exact Or.inl c_8 | exact Or.inr (Or.inl c_14) | exact Or.inr (Or.inr (Or.inl c_20)) | exact Or.inr (Or.inr (Or.inr c_26))⟩).trans ((if_neg (Int32.not_lt.mpr (Classical.not_not.mp (fun z => z c_37)))).trans (if_neg c_50))))
        ·
          refine xg_aload_n (pc := 40) dX6_sheet_40 rfl ?_
          refine xg_ldc (v := -1000000007) (pc := 41) dX6_sheet_41 ccX6_233 ?_
          refine xg_cvI (pc := 43) (h1 := hp (tri f0 f1 f2) (o.1, upd o.2.1 6 (o.2.1 6 + 1), o.2.2.1, o.2.2.2.1, o.2.2.2.2.1, o.2.2.2.2.2.1, o.2.2.2.2.2.2.1, o.2.2.2.2.2.2.2.1, o.2.2.2.2.2.2.2.2.1, o.2.2.2.2.2.2.2.2.2.1, o.2.2.2.2.2.2.2.2.2.2) mf wf q) (x := -1000000007) (M' := mX6_finding) dX6_sheet_43 lkX6_65 mcX6_finding hp_0 rfl (ev_X6_finding (j := 6) (by decide) (by decide)) rfl rfl (Nat.le_of_ble_eq_true rfl) ?_
          exact xg_iret (pc := 46) dX6_sheet_46 rfl (cpR (by exact (if_pos ⟨c_4, by first | exact Or.inl c_8 | exact Or.inr (Or.inl c_14) | exact Or.inr (Or.inr (Or.inl c_20)) | exact Or.inr (Or.inr (Or.inr c_26))⟩).trans (if_pos (Int32.not_le.mp c_37))))
      ·
        refine xg_iload_n (pc := 17) dX6_sheet_17 rfl ?_
        refine xg_bipush (v := 16) (pc := 18) dX6_sheet_18 (by decide) ?_
        refine xg_icmp_eq (pc := 20) (tgt := 36) dX6_sheet_20 (by decide) (fun c_20 => ?_) (fun c_20 => ?_)
        ·
          refine xg_iload_n (pc := 36) dX6_sheet_36 rfl ?_
          refine xg_if_ge (pc := 37) (tgt := 47) dX6_sheet_37 (by decide) (fun c_37 => ?_) (fun c_37 => ?_)
          ·
            refine xg_iload_n (pc := 47) dX6_sheet_47 rfl ?_
            refine xg_bipush (v := 40) (pc := 48) dX6_sheet_48 (by decide) ?_
            refine xg_icmp_le (pc := 50) (tgt := 60) dX6_sheet_50 (by decide) (fun c_50 => ?_) (fun c_50 => ?_)
            ·
              obtain ⟨sn, hsn, rfl⟩ := sheet_n c_4
              have esn : ix (nI sn) = sn := nI_clamp (by omega)
              refine xg_aload_n (pc := 60) dX6_sheet_60 rfl ?_
              refine xg_get (pc := 61) dX6_sheet_61 flX6_44 hp_0 rfl ?_
              refine xg_iload_n (pc := 64) dX6_sheet_64 rfl ?_
              refine xg_aald (pc := 65) (r := 53 + 2 * sn) sn dX6_sheet_65 hp_52 (by decide) rfl (by omega) (by decide) (if_pos (by omega)) ?_
              refine xg_iload_n (pc := 66) dX6_sheet_66 rfl ?_
              refine xg_iload_n (pc := 67) dX6_sheet_67 rfl ?_
              refine xg_if_ne (pc := 68) (tgt := 75) dX6_sheet_68 (by decide) (fun c_68 => ?_) (fun c_68 => ?_)
              ·
                refine xg_iload_n (pc := 75) dX6_sheet_75 rfl ?_
                refine xg_cvV (pc := 76) (h1 := hp (tri f0 f1 f2) (o.1, o.2.1, o.2.2.1, o.2.2.2.1, o.2.2.2.2.1, o.2.2.2.2.2.1, o.2.2.2.2.2.2.1, o.2.2.2.2.2.2.2.1, upd o.2.2.2.2.2.2.2.2.1 sn b, upd o.2.2.2.2.2.2.2.2.2.1 sn n, va_up o.2.2.2.2.2.2.2.2.2.2 sn (zrL 40 (o.2.2.2.2.2.2.2.2.2.2 sn))) mf wf q) (M' := mX2_begin) dX6_sheet_76 lkX6_234 mcX2_begin (hp_sheet (by omega)) rfl (ev_X2_begin (by omega)) rfl rfl (Nat.le_of_ble_eq_true rfl) ?_
                refine xg_aload_n (pc := 79) dX6_sheet_79 rfl ?_
                refine xg_get (pc := 80) dX6_sheet_80 flX6_44 hp_0 rfl ?_
                refine xg_iload_n (pc := 83) dX6_sheet_83 rfl ?_
                refine xg_aald (pc := 84) (r := 53 + 2 * sn) sn dX6_sheet_84 hp_52 (by decide) rfl (by omega) (by decide) (if_pos (by omega)) ?_
                refine xg_get (pc := 85) dX6_sheet_85 flX6_237 (hp_sheet (by omega)) rfl ?_
                refine xg_eq pk_us ?_
                exact xg_iret (pc := 88) dX6_sheet_88 rfl (cpR (by refine (if_pos ⟨c_4, by first | exact Or.inl c_8 | exact Or.inr (Or.inl c_14) | exact Or.inr (Or.inr (Or.inl c_20)) | exact Or.inr (Or.inr (Or.inr c_26))⟩).trans ((if_neg (Int32.not_lt.mpr c_37)).trans ((if_pos c_50).trans ?_)); rw [esn]; first | (rw [if_pos c_68]; rfl) | (rw [if_neg c_68]; rfl)))
              ·
                refine xg_iconst (v := 0) (pc := 71) dX6_sheet_71 (by decide) ?_
                refine xg_goto (pc := 72) (tgt := 76) dX6_sheet_72 (by decide) ?_
                refine xg_cvV (pc := 76) (h1 := hp (tri f0 f1 f2) (o.1, o.2.1, o.2.2.1, o.2.2.2.1, o.2.2.2.2.1, o.2.2.2.2.2.1, o.2.2.2.2.2.2.1, o.2.2.2.2.2.2.2.1, upd o.2.2.2.2.2.2.2.2.1 sn b, upd o.2.2.2.2.2.2.2.2.2.1 sn 0, va_up o.2.2.2.2.2.2.2.2.2.2 sn (zrL 40 (o.2.2.2.2.2.2.2.2.2.2 sn))) mf wf q) (M' := mX2_begin) dX6_sheet_76 lkX6_234 mcX2_begin (hp_sheet (by omega)) rfl (ev_X2_begin (by omega)) rfl rfl (Nat.le_of_ble_eq_true rfl) ?_
                refine xg_aload_n (pc := 79) dX6_sheet_79 rfl ?_
                refine xg_get (pc := 80) dX6_sheet_80 flX6_44 hp_0 rfl ?_
                refine xg_iload_n (pc := 83) dX6_sheet_83 rfl ?_
                refine xg_aald (pc := 84) (r := 53 + 2 * sn) sn dX6_sheet_84 hp_52 (by decide) rfl (by omega) (by decide) (if_pos (by omega)) ?_
                refine xg_get (pc := 85) dX6_sheet_85 flX6_237 (hp_sheet (by omega)) rfl ?_
                refine xg_eq pk_us ?_
                exact xg_iret (pc := 88) dX6_sheet_88 rfl (cpR (by refine (if_pos ⟨c_4, by first | exact Or.inl c_8 | exact Or.inr (Or.inl c_14) | exact Or.inr (Or.inr (Or.inl c_20)) | exact Or.inr (Or.inr (Or.inr c_26))⟩).trans ((if_neg (Int32.not_lt.mpr c_37)).trans ((if_pos c_50).trans ?_)); rw [esn]; first | (rw [if_pos c_68]; rfl) | (rw [if_neg c_68]; rfl)))
            ·
              refine xg_aload_n (pc := 53) dX6_sheet_53 rfl ?_
              refine xg_ldc (v := -1000000001) (pc := 54) dX6_sheet_54 ccX6_64 ?_
              refine xg_cvI (pc := 56) (h1 := hp (tri f0 f1 f2) (o.1, upd o.2.1 0 (o.2.1 0 + 1), o.2.2.1, o.2.2.2.1, o.2.2.2.2.1, o.2.2.2.2.2.1, o.2.2.2.2.2.2.1, o.2.2.2.2.2.2.2.1, o.2.2.2.2.2.2.2.2.1, o.2.2.2.2.2.2.2.2.2.1, o.2.2.2.2.2.2.2.2.2.2) mf wf q) (x := -1000000001) (M' := mX6_finding) dX6_sheet_56 lkX6_65 mcX6_finding hp_0 rfl (ev_X6_finding (j := 0) (by decide) (by decide)) rfl rfl (Nat.le_of_ble_eq_true rfl) ?_
              exact xg_iret (pc := 59) dX6_sheet_59 rfl (cpR (by exact (if_pos ⟨c_4, by first | exact Or.inl c_8 | exact Or.inr (Or.inl c_14) | exact Or.inr (Or.inr (Or.inl c_20)) | exact Or.inr (Or.inr (Or.inr c_26))⟩).trans ((if_neg (Int32.not_lt.mpr (Classical.not_not.mp (fun z => z c_37)))).trans (if_neg c_50))))
          ·
            refine xg_aload_n (pc := 40) dX6_sheet_40 rfl ?_
            refine xg_ldc (v := -1000000007) (pc := 41) dX6_sheet_41 ccX6_233 ?_
            refine xg_cvI (pc := 43) (h1 := hp (tri f0 f1 f2) (o.1, upd o.2.1 6 (o.2.1 6 + 1), o.2.2.1, o.2.2.2.1, o.2.2.2.2.1, o.2.2.2.2.2.1, o.2.2.2.2.2.2.1, o.2.2.2.2.2.2.2.1, o.2.2.2.2.2.2.2.2.1, o.2.2.2.2.2.2.2.2.2.1, o.2.2.2.2.2.2.2.2.2.2) mf wf q) (x := -1000000007) (M' := mX6_finding) dX6_sheet_43 lkX6_65 mcX6_finding hp_0 rfl (ev_X6_finding (j := 6) (by decide) (by decide)) rfl rfl (Nat.le_of_ble_eq_true rfl) ?_
            exact xg_iret (pc := 46) dX6_sheet_46 rfl (cpR (by exact (if_pos ⟨c_4, by first | exact Or.inl c_8 | exact Or.inr (Or.inl c_14) | exact Or.inr (Or.inr (Or.inl c_20)) | exact Or.inr (Or.inr (Or.inr c_26))⟩).trans (if_pos (Int32.not_le.mp c_37))))
        ·
          refine xg_iload_n (pc := 23) dX6_sheet_23 rfl ?_
          refine xg_bipush (v := 64) (pc := 24) dX6_sheet_24 (by decide) ?_
          refine xg_icmp_eq (pc := 26) (tgt := 36) dX6_sheet_26 (by decide) (fun c_26 => ?_) (fun c_26 => ?_)
          ·
            refine xg_iload_n (pc := 36) dX6_sheet_36 rfl ?_
            refine xg_if_ge (pc := 37) (tgt := 47) dX6_sheet_37 (by decide) (fun c_37 => ?_) (fun c_37 => ?_)
            ·
              refine xg_iload_n (pc := 47) dX6_sheet_47 rfl ?_
              refine xg_bipush (v := 40) (pc := 48) dX6_sheet_48 (by decide) ?_
              refine xg_icmp_le (pc := 50) (tgt := 60) dX6_sheet_50 (by decide) (fun c_50 => ?_) (fun c_50 => ?_)
              ·
                obtain ⟨sn, hsn, rfl⟩ := sheet_n c_4
                have esn : ix (nI sn) = sn := nI_clamp (by omega)
                refine xg_aload_n (pc := 60) dX6_sheet_60 rfl ?_
                refine xg_get (pc := 61) dX6_sheet_61 flX6_44 hp_0 rfl ?_
                refine xg_iload_n (pc := 64) dX6_sheet_64 rfl ?_
                refine xg_aald (pc := 65) (r := 53 + 2 * sn) sn dX6_sheet_65 hp_52 (by decide) rfl (by omega) (by decide) (if_pos (by omega)) ?_
                refine xg_iload_n (pc := 66) dX6_sheet_66 rfl ?_
                refine xg_iload_n (pc := 67) dX6_sheet_67 rfl ?_
                refine xg_if_ne (pc := 68) (tgt := 75) dX6_sheet_68 (by decide) (fun c_68 => ?_) (fun c_68 => ?_)
                ·
                  refine xg_iload_n (pc := 75) dX6_sheet_75 rfl ?_
                  refine xg_cvV (pc := 76) (h1 := hp (tri f0 f1 f2) (o.1, o.2.1, o.2.2.1, o.2.2.2.1, o.2.2.2.2.1, o.2.2.2.2.2.1, o.2.2.2.2.2.2.1, o.2.2.2.2.2.2.2.1, upd o.2.2.2.2.2.2.2.2.1 sn b, upd o.2.2.2.2.2.2.2.2.2.1 sn n, va_up o.2.2.2.2.2.2.2.2.2.2 sn (zrL 40 (o.2.2.2.2.2.2.2.2.2.2 sn))) mf wf q) (M' := mX2_begin) dX6_sheet_76 lkX6_234 mcX2_begin (hp_sheet (by omega)) rfl (ev_X2_begin (by omega)) rfl rfl (Nat.le_of_ble_eq_true rfl) ?_
                  refine xg_aload_n (pc := 79) dX6_sheet_79 rfl ?_
                  refine xg_get (pc := 80) dX6_sheet_80 flX6_44 hp_0 rfl ?_
                  refine xg_iload_n (pc := 83) dX6_sheet_83 rfl ?_
                  refine xg_aald (pc := 84) (r := 53 + 2 * sn) sn dX6_sheet_84 hp_52 (by decide) rfl (by omega) (by decide) (if_pos (by omega)) ?_
                  refine xg_get (pc := 85) dX6_sheet_85 flX6_237 (hp_sheet (by omega)) rfl ?_
                  refine xg_eq pk_us ?_
                  exact xg_iret (pc := 88) dX6_sheet_88 rfl (cpR (by refine (if_pos ⟨c_4, by first | exact Or.inl c_8 | exact Or.inr (Or.inl c_14) | exact Or.inr (Or.inr (Or.inl c_20)) | exact Or.inr (Or.inr (Or.inr c_26))⟩).trans ((if_neg (Int32.not_lt.mpr c_37)).trans ((if_pos c_50).trans ?_)); rw [esn]; first | (rw [if_pos c_68]; rfl) | (rw [if_neg c_68]; rfl)))
                ·
                  refine xg_iconst (v := 0) (pc := 71) dX6_sheet_71 (by decide) ?_
                  refine xg_goto (pc := 72) (tgt := 76) dX6_sheet_72 (by decide) ?_
                  refine xg_cvV (pc := 76) (h1 := hp (tri f0 f1 f2) (o.1, o.2.1, o.2.2.1, o.2.2.2.1, o.2.2.2.2.1, o.2.2.2.2.2.1, o.2.2.2.2.2.2.1, o.2.2.2.2.2.2.2.1, upd o.2.2.2.2.2.2.2.2.1 sn b, upd o.2.2.2.2.2.2.2.2.2.1 sn 0, va_up o.2.2.2.2.2.2.2.2.2.2 sn (zrL 40 (o.2.2.2.2.2.2.2.2.2.2 sn))) mf wf q) (M' := mX2_begin) dX6_sheet_76 lkX6_234 mcX2_begin (hp_sheet (by omega)) rfl (ev_X2_begin (by omega)) rfl rfl (Nat.le_of_ble_eq_true rfl) ?_
                  refine xg_aload_n (pc := 79) dX6_sheet_79 rfl ?_
                  refine xg_get (pc := 80) dX6_sheet_80 flX6_44 hp_0 rfl ?_
                  refine xg_iload_n (pc := 83) dX6_sheet_83 rfl ?_
                  refine xg_aald (pc := 84) (r := 53 + 2 * sn) sn dX6_sheet_84 hp_52 (by decide) rfl (by omega) (by decide) (if_pos (by omega)) ?_
                  refine xg_get (pc := 85) dX6_sheet_85 flX6_237 (hp_sheet (by omega)) rfl ?_
                  refine xg_eq pk_us ?_
                  exact xg_iret (pc := 88) dX6_sheet_88 rfl (cpR (by refine (if_pos ⟨c_4, by first | exact Or.inl c_8 | exact Or.inr (Or.inl c_14) | exact Or.inr (Or.inr (Or.inl c_20)) | exact Or.inr (Or.inr (Or.inr c_26))⟩).trans ((if_neg (Int32.not_lt.mpr c_37)).trans ((if_pos c_50).trans ?_)); rw [esn]; first | (rw [if_pos c_68]; rfl) | (rw [if_neg c_68]; rfl)))
              ·
                refine xg_aload_n (pc := 53) dX6_sheet_53 rfl ?_
                refine xg_ldc (v := -1000000001) (pc := 54) dX6_sheet_54 ccX6_64 ?_
                refine xg_cvI (pc := 56) (h1 := hp (tri f0 f1 f2) (o.1, upd o.2.1 0 (o.2.1 0 + 1), o.2.2.1, o.2.2.2.1, o.2.2.2.2.1, o.2.2.2.2.2.1, o.2.2.2.2.2.2.1, o.2.2.2.2.2.2.2.1, o.2.2.2.2.2.2.2.2.1, o.2.2.2.2.2.2.2.2.2.1, o.2.2.2.2.2.2.2.2.2.2) mf wf q) (x := -1000000001) (M' := mX6_finding) dX6_sheet_56 lkX6_65 mcX6_finding hp_0 rfl (ev_X6_finding (j := 0) (by decide) (by decide)) rfl rfl (Nat.le_of_ble_eq_true rfl) ?_
                exact xg_iret (pc := 59) dX6_sheet_59 rfl (cpR (by exact (if_pos ⟨c_4, by first | exact Or.inl c_8 | exact Or.inr (Or.inl c_14) | exact Or.inr (Or.inr (Or.inl c_20)) | exact Or.inr (Or.inr (Or.inr c_26))⟩).trans ((if_neg (Int32.not_lt.mpr (Classical.not_not.mp (fun z => z c_37)))).trans (if_neg c_50))))
            ·
              refine xg_aload_n (pc := 40) dX6_sheet_40 rfl ?_
              refine xg_ldc (v := -1000000007) (pc := 41) dX6_sheet_41 ccX6_233 ?_
              refine xg_cvI (pc := 43) (h1 := hp (tri f0 f1 f2) (o.1, upd o.2.1 6 (o.2.1 6 + 1), o.2.2.1, o.2.2.2.1, o.2.2.2.2.1, o.2.2.2.2.2.1, o.2.2.2.2.2.2.1, o.2.2.2.2.2.2.2.1, o.2.2.2.2.2.2.2.2.1, o.2.2.2.2.2.2.2.2.2.1, o.2.2.2.2.2.2.2.2.2.2) mf wf q) (x := -1000000007) (M' := mX6_finding) dX6_sheet_43 lkX6_65 mcX6_finding hp_0 rfl (ev_X6_finding (j := 6) (by decide) (by decide)) rfl rfl (Nat.le_of_ble_eq_true rfl) ?_
              exact xg_iret (pc := 46) dX6_sheet_46 rfl (cpR (by exact (if_pos ⟨c_4, by first | exact Or.inl c_8 | exact Or.inr (Or.inl c_14) | exact Or.inr (Or.inr (Or.inl c_20)) | exact Or.inr (Or.inr (Or.inr c_26))⟩).trans (if_pos (Int32.not_le.mp c_37))))
          ·
            refine xg_aload_n (pc := 29) dX6_sheet_29 rfl ?_
            refine xg_ldc (v := -1000000001) (pc := 30) dX6_sheet_30 ccX6_64 ?_
            refine xg_cvI (pc := 32) (h1 := hp (tri f0 f1 f2) (o.1, upd o.2.1 0 (o.2.1 0 + 1), o.2.2.1, o.2.2.2.1, o.2.2.2.2.1, o.2.2.2.2.2.1, o.2.2.2.2.2.2.1, o.2.2.2.2.2.2.2.1, o.2.2.2.2.2.2.2.2.1, o.2.2.2.2.2.2.2.2.2.1, o.2.2.2.2.2.2.2.2.2.2) mf wf q) (x := -1000000001) (M' := mX6_finding) dX6_sheet_32 lkX6_65 mcX6_finding hp_0 rfl (ev_X6_finding (j := 0) (by decide) (by decide)) rfl rfl (Nat.le_of_ble_eq_true rfl) ?_
            exact xg_iret (pc := 35) dX6_sheet_35 rfl (cpR (by exact if_neg (fun q => q.2.elim c_8 (fun q => q.elim c_14 (fun q => q.elim c_20 c_26)))))
set_option maxRecDepth 100000 in
set_option maxHeartbeats 4000000 in
theorem ev_X6_write {s i : Int32} {v : Int64} (okz : okS (oZ o)) : xEv X false (d + 2) 0 0 mX6_write [.ref 0, .int s, .int i, .long v] (hp (tri f0 f1 f2) o mf wf q) (CP mf wf q (c_write o f0 f2 s i v)) := by
  refine xEv.of (ls := [some (.ref 0), some (.int s), some (.int i), some (.long v), none, none, none]) mcX6_write.1.2.2.2.2 (Nat.le_of_ble_eq_true rfl) rfl ?_
  refine xg_iload_n (pc := 0) dX6_write_0 rfl ?_
  refine xg_csI (pc := 1) (h1 := hp (tri f0 f1 f2) o mf wf q) (x := if 0 ≤ s ∧ s ≤ 3 then 1 else 0) (M' := mX6_isSheet) dX6_write_1 lkX6_230 mcX6_isSheet (ev_X6_isSheet) rfl rfl (Nat.le_of_ble_eq_true rfl) ?_
  refine xg_bnz (pc := 4) (tgt := 15) dX6_write_4 (by decide) (fun c_4 => ?_) (fun c_4 => ?_)
  ·
    obtain ⟨sn, hsn, rfl⟩ := sheet_n c_4
    have esn : ix (nI sn) = sn := nI_clamp (by omega)
    have hz0 := okz sn (by omega)
    refine xg_aload_n (pc := 15) dX6_write_15 rfl ?_
    refine xg_get (pc := 16) dX6_write_16 flX6_44 hp_0 rfl ?_
    refine xg_iload_n (pc := 19) dX6_write_19 rfl ?_
    refine xg_aald (pc := 20) (r := 53 + 2 * sn) sn dX6_write_20 hp_52 (by decide) rfl (by omega) (by decide) (if_pos (by omega)) ?_
    refine xg_cvI (pc := 21) (h1 := hp (tri f0 f1 f2) o mf wf q) (x := if o.2.2.2.2.2.2.2.2.1 sn = 0 then 1 else 0) (M' := mX2_isMissing) dX6_write_21 lkX6_240 mcX2_isMissing (hp_sheet (by omega)) rfl (ev_X2_isMissing (by omega)) rfl rfl (Nat.le_of_ble_eq_true rfl) ?_
    refine xg_bz (pc := 24) (tgt := 35) dX6_write_24 (by decide) (fun c_24 => ?_) (fun c_24 => ?_)
    ·
      refine xg_iload_n (pc := 35) dX6_write_35 rfl ?_
      refine xg_if_lt (pc := 36) (tgt := 52) dX6_write_36 (by decide) (fun c_36 => ?_) (fun c_36 => ?_)
      ·
        refine xg_aload_n (pc := 52) dX6_write_52 rfl ?_
        refine xg_ldc (v := -1000000001) (pc := 53) dX6_write_53 ccX6_64 ?_
        refine xg_cvI (pc := 55) (h1 := hp (tri f0 f1 f2) (o.1, upd o.2.1 0 (o.2.1 0 + 1), o.2.2.1, o.2.2.2.1, o.2.2.2.2.1, o.2.2.2.2.2.1, o.2.2.2.2.2.2.1, o.2.2.2.2.2.2.2.1, o.2.2.2.2.2.2.2.2.1, o.2.2.2.2.2.2.2.2.2.1, o.2.2.2.2.2.2.2.2.2.2) mf wf q) (x := -1000000001) (M' := mX6_finding) dX6_write_55 lkX6_65 mcX6_finding hp_0 rfl (ev_X6_finding (j := 0) (by decide) (by decide)) rfl rfl (Nat.le_of_ble_eq_true rfl) ?_
        refine xg_i2l (pc := 58) dX6_write_58 ?_
        exact xg_lret (pc := 59) dX6_write_59 rfl (cpR (by refine (if_pos c_4).trans ((if_neg (by rw [esn]; exact c_24)).trans ((if_neg (by rw [esn]; exact (fun q => Int32.not_lt.mpr q.1 c_36))).trans rfl))))
      ·
        refine xg_iload_n (pc := 39) dX6_write_39 rfl ?_
        refine xg_aload_n (pc := 40) dX6_write_40 rfl ?_
        refine xg_get (pc := 41) dX6_write_41 flX6_44 hp_0 rfl ?_
        refine xg_iload_n (pc := 44) dX6_write_44 rfl ?_
        refine xg_aald (pc := 45) (r := 53 + 2 * sn) sn dX6_write_45 hp_52 (by decide) rfl (by omega) (by decide) (if_pos (by omega)) ?_
        refine xg_get (pc := 46) dX6_write_46 flX6_237 (hp_sheet (by omega)) rfl ?_
        refine xg_icmp_lt (pc := 49) (tgt := 60) dX6_write_49 (by decide) (fun c_49 => ?_) (fun c_49 => ?_)
        ·
          obtain ⟨in_, hin_, rfl⟩ := num_n ⟨Int32.not_lt.mp c_36, c_49⟩ hz0.1 hz0.2
          have ein_ : ix (nI in_) = in_ := nI_clamp (by omega)
          refine xg_aload_n (pc := 60) dX6_write_60 rfl ?_
          refine xg_get (pc := 61) dX6_write_61 flX6_44 hp_0 rfl ?_
          refine xg_iload_n (pc := 64) dX6_write_64 rfl ?_
          refine xg_aald (pc := 65) (r := 53 + 2 * sn) sn dX6_write_65 hp_52 (by decide) rfl (by omega) (by decide) (if_pos (by omega)) ?_
          refine xg_get (pc := 66) dX6_write_66 flX6_245 (hp_sheet (by omega)) rfl ?_
          refine xg_iload_n (pc := 69) dX6_write_69 rfl ?_
          refine xg_lald (pc := 70) in_ dX6_write_70 (hp_nums (by omega)) rfl (by omega) (by decide) ?_
          refine xg_lstore (pc := 71) (ls' := [some (.ref 0), some (.int (nI sn)), some (.int (nI in_)), some (.long v), none, some (.long (o.2.2.2.2.2.2.2.2.2.2 sn in_)), none]) dX6_write_71 (by decide) rfl ?_
          refine xg_aload_n (pc := 73) dX6_write_73 rfl ?_
          refine xg_get (pc := 74) dX6_write_74 flX6_44 hp_0 rfl ?_
          refine xg_iload_n (pc := 77) dX6_write_77 rfl ?_
          refine xg_aald (pc := 78) (r := 53 + 2 * sn) sn dX6_write_78 hp_52 (by decide) rfl (by omega) (by decide) (if_pos (by omega)) ?_
          refine xg_iload_n (pc := 79) dX6_write_79 rfl ?_
          refine xg_lload_n (pc := 80) dX6_write_80 rfl ?_
          refine xg_cvV (pc := 81) (h1 := hp (tri f0 f1 f2) (o.1, o.2.1, o.2.2.1, o.2.2.2.1, o.2.2.2.2.1, o.2.2.2.2.2.1, o.2.2.2.2.2.2.1, o.2.2.2.2.2.2.2.1, o.2.2.2.2.2.2.2.2.1, o.2.2.2.2.2.2.2.2.2.1, va_up o.2.2.2.2.2.2.2.2.2.2 sn (vp_updL (o.2.2.2.2.2.2.2.2.2.2 sn) in_ (cut (o.2.2.2.2.2.2.2.2.1 sn) v))) mf wf q) (M' := mX2_put) dX6_write_81 lkX6_249 mcX2_put (hp_sheet (by omega)) rfl (ev_X2_put (i := in_) (by omega) hz0.1 hin_ hz0.2) rfl rfl (Nat.le_of_ble_eq_true rfl) ?_
          refine xg_lload (pc := 84) dX6_write_84 rfl ?_
          exact xg_lret (pc := 86) dX6_write_86 rfl (cpR (by refine (if_pos c_4).trans ((if_neg (by rw [esn]; exact c_24)).trans ((if_pos (by rw [esn]; exact ⟨Int32.not_lt.mp c_36, c_49⟩)).trans ?_)); rw [esn, ein_]; rfl))
        ·
          refine xg_aload_n (pc := 52) dX6_write_52 rfl ?_
          refine xg_ldc (v := -1000000001) (pc := 53) dX6_write_53 ccX6_64 ?_
          refine xg_cvI (pc := 55) (h1 := hp (tri f0 f1 f2) (o.1, upd o.2.1 0 (o.2.1 0 + 1), o.2.2.1, o.2.2.2.1, o.2.2.2.2.1, o.2.2.2.2.2.1, o.2.2.2.2.2.2.1, o.2.2.2.2.2.2.2.1, o.2.2.2.2.2.2.2.2.1, o.2.2.2.2.2.2.2.2.2.1, o.2.2.2.2.2.2.2.2.2.2) mf wf q) (x := -1000000001) (M' := mX6_finding) dX6_write_55 lkX6_65 mcX6_finding hp_0 rfl (ev_X6_finding (j := 0) (by decide) (by decide)) rfl rfl (Nat.le_of_ble_eq_true rfl) ?_
          refine xg_i2l (pc := 58) dX6_write_58 ?_
          exact xg_lret (pc := 59) dX6_write_59 rfl (cpR (by refine (if_pos c_4).trans ((if_neg (by rw [esn]; exact c_24)).trans ((if_neg (by rw [esn]; exact (fun q => c_49 q.2))).trans rfl))))
    ·
      refine xg_aload_n (pc := 27) dX6_write_27 rfl ?_
      refine xg_ldc (v := -1000000006) (pc := 28) dX6_write_28 ccX6_244 ?_
      refine xg_cvI (pc := 30) (h1 := hp (tri f0 f1 f2) (o.1, upd o.2.1 5 (o.2.1 5 + 1), o.2.2.1, o.2.2.2.1, o.2.2.2.2.1, o.2.2.2.2.2.1, o.2.2.2.2.2.2.1, o.2.2.2.2.2.2.2.1, o.2.2.2.2.2.2.2.2.1, o.2.2.2.2.2.2.2.2.2.1, o.2.2.2.2.2.2.2.2.2.2) mf wf q) (x := -1000000006) (M' := mX6_finding) dX6_write_30 lkX6_65 mcX6_finding hp_0 rfl (ev_X6_finding (j := 5) (by decide) (by decide)) rfl rfl (Nat.le_of_ble_eq_true rfl) ?_
      refine xg_i2l (pc := 33) dX6_write_33 ?_
      exact xg_lret (pc := 34) dX6_write_34 rfl (cpR (by refine (if_pos c_4).trans ((if_pos (by rw [esn]; exact c_24)).trans rfl)))
  ·
    refine xg_aload_n (pc := 7) dX6_write_7 rfl ?_
    refine xg_ldc (v := -1000000001) (pc := 8) dX6_write_8 ccX6_64 ?_
    refine xg_cvI (pc := 10) (h1 := hp (tri f0 f1 f2) (o.1, upd o.2.1 0 (o.2.1 0 + 1), o.2.2.1, o.2.2.2.1, o.2.2.2.2.1, o.2.2.2.2.2.1, o.2.2.2.2.2.2.1, o.2.2.2.2.2.2.2.1, o.2.2.2.2.2.2.2.2.1, o.2.2.2.2.2.2.2.2.2.1, o.2.2.2.2.2.2.2.2.2.2) mf wf q) (x := -1000000001) (M' := mX6_finding) dX6_write_10 lkX6_65 mcX6_finding hp_0 rfl (ev_X6_finding (j := 0) (by decide) (by decide)) rfl rfl (Nat.le_of_ble_eq_true rfl) ?_
    refine xg_i2l (pc := 13) dX6_write_13 ?_
    exact xg_lret (pc := 14) dX6_write_14 rfl (cpR (by exact if_neg c_4))
end
