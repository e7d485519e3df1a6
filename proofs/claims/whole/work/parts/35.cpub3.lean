section
variable {X : xS} {d : Nat} {o : xO} {mf wf : Nat → Int32} {q : xQ} {f0 f1 f2 : Nat → Int32} {lk : Nat → Nat → Int32}
theorem hp_lake2 : (hp (tri f0 f1 f2) o mf wf q)[1 + 16 * 2]? = some (.inr (1, lfs f2 2)) := rfl
set_option maxRecDepth 100000 in
theorem ev_X3_append {L : Nat} {x : Int32} (hL : o.2.2.1 = nI L) (hL2 : L < 120) : xDv X false (d + 0) mX3_append [.ref 49, .int x] (hp lk o mf wf q) [] (hp lk (o.1, o.2.1, nI (L + 1), upd o.2.2.2.1 L x, o.2.2.2.2.1, o.2.2.2.2.2.1, o.2.2.2.2.2.2.1, o.2.2.2.2.2.2.2.1, o.2.2.2.2.2.2.2.2.1, o.2.2.2.2.2.2.2.2.2.1, o.2.2.2.2.2.2.2.2.2.2) mf wf q) := by
  refine xDv.of (ls := [some (.ref 49), some (.int x)]) mcX3_append.1.2.2.2.2 (Nat.le_of_ble_eq_true rfl) rfl ?_
  refine xg_aload_n (pc := 0) dX3_append_0 rfl ?_
  refine xg_get (pc := 1) dX3_append_1 flX3_15 hp_49 rfl ?_
  refine xg_eq hL ?_
  refine xg_bipush (v := 120) (pc := 4) dX3_append_4 (by decide) ?_
  refine xg_icmp_ge (pc := 6) (tgt := 29) dX3_append_6 (by decide) (fun c_6 => absurd c_6 (nI_ge (b := 120) (by omega) (by omega))) (fun c_6 => ?_)
  refine xg_aload_n (pc := 9) dX3_append_9 rfl ?_
  refine xg_get (pc := 10) dX3_append_10 flX3_9 hp_49 rfl ?_
  refine xg_aload_n (pc := 13) dX3_append_13 rfl ?_
  refine xg_get (pc := 14) dX3_append_14 flX3_15 hp_49 rfl ?_
  refine xg_eq hL ?_
  refine xg_iload_n (pc := 17) dX3_append_17 rfl ?_
  refine xg_iast (pc := 18) (h' := hp lk (o.1, o.2.1, o.2.2.1, upd o.2.2.2.1 L x, o.2.2.2.2.1, o.2.2.2.2.2.1, o.2.2.2.2.2.2.1, o.2.2.2.2.2.2.2.1, o.2.2.2.2.2.2.2.2.1, o.2.2.2.2.2.2.2.2.2.1, o.2.2.2.2.2.2.2.2.2.2) mf wf q) L dX3_append_18 hp_50 rfl (by omega) (by decide) hs_tb ?_
  refine xg_aload_n (pc := 19) dX3_append_19 rfl ?_
  refine xg_dup (pc := 20) dX3_append_20 rfl ?_
  refine xg_get (pc := 21) dX3_append_21 flX3_15 hp_49 rfl ?_
  refine xg_eq hL ?_
  refine xg_iconst (v := 1) (pc := 24) dX3_append_24 (by decide) ?_
  refine xg_iadd (pc := 25) dX3_append_25 ?_
  refine xg_puti (pc := 26) (h' := hp lk (o.1, o.2.1, (nI L) + 1, upd o.2.2.2.1 L x, o.2.2.2.2.1, o.2.2.2.2.2.1, o.2.2.2.2.2.2.1, o.2.2.2.2.2.2.2.1, o.2.2.2.2.2.2.2.2.1, o.2.2.2.2.2.2.2.2.2.1, o.2.2.2.2.2.2.2.2.2.2) mf wf q) dX3_append_26 flX3_15 hp_49 (Nat.le_of_ble_eq_true rfl) hs_tl ?_
  exact xg_ret (pc := 29) dX3_append_29 rfl (⟨rfl, by rw [nI_1]⟩)
set_option maxRecDepth 100000 in
set_option maxHeartbeats 4000000 in
theorem ev_X6_feed {L : Nat} {x n : Int32} (hL : o.2.2.1 = nI L) (hL2 : L ≤ 120) : xEv X false (d + 1) 0 0 mX6_feed [.ref 0, .int x, .int n] (hp (tri f0 f1 f2) o mf wf q) (CP mf wf q (c_feed o f0 f2 x n)) := by
  have eL : ix (nI L) = L := nI_clamp (by omega)
  refine xEv.of (ls := [some (.ref 0), some (.int x), some (.int n), none]) mcX6_feed.1.2.2.2.2 (Nat.le_of_ble_eq_true rfl) rfl ?_
  refine xg_iload_n (pc := 0) dX6_feed_0 rfl ?_
  refine xg_iconst (v := 1) (pc := 1) dX6_feed_1 (by decide) ?_
  refine xg_iconst (v := 4) (pc := 2) dX6_feed_2 (by decide) ?_
  refine xg_csI (pc := 3) (h1 := hp (tri f0 f1 f2) o mf wf q) (x := if 1 ≤ n ∧ n ≤ 4 then 1 else 0) (M' := mX6_isWithin) dX6_feed_3 lkX6_53 mcX6_isWithin (ev_X6_isWithin) rfl rfl (Nat.le_of_ble_eq_true rfl) ?_
  refine xg_bnz (pc := 6) (tgt := 16) dX6_feed_6 (by decide) (fun c_6 => ?_) (fun c_6 => ?_)
  ·
    refine xg_aload_n (pc := 16) dX6_feed_16 rfl ?_
    refine xg_get (pc := 17) dX6_feed_17 flX6_29 hp_0 rfl ?_
    refine xg_get (pc := 20) dX6_feed_20 flX6_220 hp_49 rfl ?_
    refine xg_eq hL ?_
    refine xg_iload_n (pc := 23) dX6_feed_23 rfl ?_
    refine xg_iadd (pc := 24) dX6_feed_24 ?_
    refine xg_bipush (v := 120) (pc := 25) dX6_feed_25 (by decide) ?_
    refine xg_icmp_le (pc := 27) (tgt := 37) dX6_feed_27 (by decide) (fun c_27 => ?_) (fun c_27 => ?_)
    ·
      rcases n14 c_6 with rfl | rfl | rfl | rfl
      ·
        refine xg_iload_n (pc := 37) dX6_feed_37 rfl ?_
        have hLn : L + 1 ≤ 120 := le120 (n := 1) c_27 hL2 (by decide)
        refine xg_iconst (v := 1) (pc := 38) dX6_feed_38 (by decide) ?_
        refine xg_isub (pc := 39) dX6_feed_39 ?_
        refine xg_eq (show (1 : Int32) - 1 = 0 by decide) ?_
        refine xg_istore_n (pc := 40) (ls' := [some (.ref 0), some (.int x), some (.int 1), some (.int 0)]) dX6_feed_40 (by decide) rfl ?_
        refine xg_iload_n (pc := 41) dX6_feed_41 rfl ?_
        refine xg_if_lt (pc := 42) (tgt := 68) dX6_feed_42 (by decide) (fun c_42 => absurd c_42 (by decide)) (fun c_42 => ?_)
        refine xg_aload_n (pc := 45) dX6_feed_45 rfl ?_
        refine xg_get (pc := 46) dX6_feed_46 flX6_29 hp_0 rfl ?_
        refine xg_iload_n (pc := 49) dX6_feed_49 rfl ?_
        refine xg_bipush (v := 8) (pc := 50) dX6_feed_50 (by decide) ?_
        refine xg_iload_n (pc := 52) dX6_feed_52 rfl ?_
        refine xg_imul (pc := 53) dX6_feed_53 ?_
        refine xg_iushr (pc := 54) dX6_feed_54 ?_
        refine xg_sipush (v := 255) (pc := 55) dX6_feed_55 (by decide) ?_
        refine xg_iand (pc := 58) dX6_feed_58 ?_
        refine xg_cvV (pc := 59) (h1 := hp (tri f0 f1 f2) (o.1, o.2.1, nI (L + 1), upd o.2.2.2.1 L (((x.toUInt32 >>> (Int32.toUInt32 (8 * 0) &&& Int32.toUInt32 31)).toInt32) &&& 255), o.2.2.2.2.1, o.2.2.2.2.2.1, o.2.2.2.2.2.2.1, o.2.2.2.2.2.2.2.1, o.2.2.2.2.2.2.2.2.1, o.2.2.2.2.2.2.2.2.2.1, o.2.2.2.2.2.2.2.2.2.2) mf wf q) (M' := mX3_append) dX6_feed_59 lkX6_223 mcX3_append hp_49 rfl (ev_X3_append (L := L) hL (by omega)) rfl rfl (Nat.le_of_ble_eq_true rfl) ?_
        refine xg_iinc (pc := 62) (y := -1) (ls' := [some (.ref 0), some (.int x), some (.int 1), some (.int (-1))]) dX6_feed_62 rfl (by decide) (by decide) rfl ?_
        refine xg_goto (pc := 65) (tgt := 41) dX6_feed_65 (by decide) ?_
        refine xg_iload_n (pc := 41) dX6_feed_41 rfl ?_
        refine xg_if_lt (pc := 42) (tgt := 68) dX6_feed_42 (by decide) (fun c_42 => ?_) (fun c_42 => absurd c_42 (by decide))
        refine xg_aload_n (pc := 68) dX6_feed_68 rfl ?_
        refine xg_get (pc := 69) dX6_feed_69 flX6_29 hp_0 rfl ?_
        refine xg_get (pc := 72) dX6_feed_72 flX6_220 hp_49 rfl ?_
        exact xg_iret (pc := 75) dX6_feed_75 rfl (cpR (by unfold c_feed; rw [hL, if_pos c_6, if_pos c_27, eL, ix_1, show (nI L + 1 : Int32) = nI (L + 1) from nI_add L 1]; rfl))
      ·
        refine xg_iload_n (pc := 37) dX6_feed_37 rfl ?_
        have hLn : L + 2 ≤ 120 := le120 (n := 2) c_27 hL2 (by decide)
        refine xg_iconst (v := 1) (pc := 38) dX6_feed_38 (by decide) ?_
        refine xg_isub (pc := 39) dX6_feed_39 ?_
        refine xg_eq (show (2 : Int32) - 1 = 1 by decide) ?_
        refine xg_istore_n (pc := 40) (ls' := [some (.ref 0), some (.int x), some (.int 2), some (.int 1)]) dX6_feed_40 (by decide) rfl ?_
        refine xg_iload_n (pc := 41) dX6_feed_41 rfl ?_
        refine xg_if_lt (pc := 42) (tgt := 68) dX6_feed_42 (by decide) (fun c_42 => absurd c_42 (by decide)) (fun c_42 => ?_)
        refine xg_aload_n (pc := 45) dX6_feed_45 rfl ?_
        refine xg_get (pc := 46) dX6_feed_46 flX6_29 hp_0 rfl ?_
        refine xg_iload_n (pc := 49) dX6_feed_49 rfl ?_
        refine xg_bipush (v := 8) (pc := 50) dX6_feed_50 (by decide) ?_
        refine xg_iload_n (pc := 52) dX6_feed_52 rfl ?_
        refine xg_imul (pc := 53) dX6_feed_53 ?_
        refine xg_iushr (pc := 54) dX6_feed_54 ?_
        refine xg_sipush (v := 255) (pc := 55) dX6_feed_55 (by decide) ?_
        refine xg_iand (pc := 58) dX6_feed_58 ?_
        refine xg_cvV (pc := 59) (h1 := hp (tri f0 f1 f2) (o.1, o.2.1, nI (L + 1), upd o.2.2.2.1 L (((x.toUInt32 >>> (Int32.toUInt32 (8 * 1) &&& Int32.toUInt32 31)).toInt32) &&& 255), o.2.2.2.2.1, o.2.2.2.2.2.1, o.2.2.2.2.2.2.1, o.2.2.2.2.2.2.2.1, o.2.2.2.2.2.2.2.2.1, o.2.2.2.2.2.2.2.2.2.1, o.2.2.2.2.2.2.2.2.2.2) mf wf q) (M' := mX3_append) dX6_feed_59 lkX6_223 mcX3_append hp_49 rfl (ev_X3_append (L := L) hL (by omega)) rfl rfl (Nat.le_of_ble_eq_true rfl) ?_
        refine xg_iinc (pc := 62) (y := 0) (ls' := [some (.ref 0), some (.int x), some (.int 2), some (.int 0)]) dX6_feed_62 rfl (by decide) (by decide) rfl ?_
        refine xg_goto (pc := 65) (tgt := 41) dX6_feed_65 (by decide) ?_
        refine xg_iload_n (pc := 41) dX6_feed_41 rfl ?_
        refine xg_if_lt (pc := 42) (tgt := 68) dX6_feed_42 (by decide) (fun c_42 => absurd c_42 (by decide)) (fun c_42 => ?_)
        refine xg_aload_n (pc := 45) dX6_feed_45 rfl ?_
        refine xg_get (pc := 46) dX6_feed_46 flX6_29 hp_0 rfl ?_
        refine xg_iload_n (pc := 49) dX6_feed_49 rfl ?_
        refine xg_bipush (v := 8) (pc := 50) dX6_feed_50 (by decide) ?_
        refine xg_iload_n (pc := 52) dX6_feed_52 rfl ?_
        refine xg_imul (pc := 53) dX6_feed_53 ?_
        refine xg_iushr (pc := 54) dX6_feed_54 ?_
        refine xg_sipush (v := 255) (pc := 55) dX6_feed_55 (by decide) ?_
        refine xg_iand (pc := 58) dX6_feed_58 ?_
        refine xg_cvV (pc := 59) (h1 := hp (tri f0 f1 f2) (o.1, o.2.1, nI (L + 1 + 1), upd (upd o.2.2.2.1 L (((x.toUInt32 >>> (Int32.toUInt32 (8 * 1) &&& Int32.toUInt32 31)).toInt32) &&& 255)) (L + 1) (((x.toUInt32 >>> (Int32.toUInt32 (8 * 0) &&& Int32.toUInt32 31)).toInt32) &&& 255), o.2.2.2.2.1, o.2.2.2.2.2.1, o.2.2.2.2.2.2.1, o.2.2.2.2.2.2.2.1, o.2.2.2.2.2.2.2.2.1, o.2.2.2.2.2.2.2.2.2.1, o.2.2.2.2.2.2.2.2.2.2) mf wf q) (M' := mX3_append) dX6_feed_59 lkX6_223 mcX3_append hp_49 rfl (ev_X3_append (L := L + 1) rfl (by omega)) rfl rfl (Nat.le_of_ble_eq_true rfl) ?_
        refine xg_iinc (pc := 62) (y := -1) (ls' := [some (.ref 0), some (.int x), some (.int 2), some (.int (-1))]) dX6_feed_62 rfl (by decide) (by decide) rfl ?_
        refine xg_goto (pc := 65) (tgt := 41) dX6_feed_65 (by decide) ?_
        refine xg_iload_n (pc := 41) dX6_feed_41 rfl ?_
        refine xg_if_lt (pc := 42) (tgt := 68) dX6_feed_42 (by decide) (fun c_42 => ?_) (fun c_42 => absurd c_42 (by decide))
        refine xg_aload_n (pc := 68) dX6_feed_68 rfl ?_
        refine xg_get (pc := 69) dX6_feed_69 flX6_29 hp_0 rfl ?_
        refine xg_get (pc := 72) dX6_feed_72 flX6_220 hp_49 rfl ?_
        exact xg_iret (pc := 75) dX6_feed_75 rfl (cpR (by unfold c_feed; rw [hL, if_pos c_6, if_pos c_27, eL, ix_2, show (nI L + 2 : Int32) = nI (L + 2) from nI_add L 2]; rfl))
      ·
        refine xg_iload_n (pc := 37) dX6_feed_37 rfl ?_
        have hLn : L + 3 ≤ 120 := le120 (n := 3) c_27 hL2 (by decide)
        refine xg_iconst (v := 1) (pc := 38) dX6_feed_38 (by decide) ?_
        refine xg_isub (pc := 39) dX6_feed_39 ?_
        refine xg_eq (show (3 : Int32) - 1 = 2 by decide) ?_
        refine xg_istore_n (pc := 40) (ls' := [some (.ref 0), some (.int x), some (.int 3), some (.int 2)]) dX6_feed_40 (by decide) rfl ?_
        refine xg_iload_n (pc := 41) dX6_feed_41 rfl ?_
        refine xg_if_lt (pc := 42) (tgt := 68) dX6_feed_42 (by decide) (fun c_42 => absurd c_42 (by decide)) (fun c_42 => ?_)
        refine xg_aload_n (pc := 45) dX6_feed_45 rfl ?_
        refine xg_get (pc := 46) dX6_feed_46 flX6_29 hp_0 rfl ?_
        refine xg_iload_n (pc := 49) dX6_feed_49 rfl ?_
        refine xg_bipush (v := 8) (pc := 50) dX6_feed_50 (by decide) ?_
        refine xg_iload_n (pc := 52) dX6_feed_52 rfl ?_
        refine xg_imul (pc := 53) dX6_feed_53 ?_
        refine xg_iushr (pc := 54) dX6_feed_54 ?_
        refine xg_sipush (v := 255) (pc := 55) dX6_feed_55 (by decide) ?_
        refine xg_iand (pc := 58) dX6_feed_58 ?_
        refine xg_cvV (pc := 59) (h1 := hp (tri f0 f1 f2) (o.1, o.2.1, nI (L + 1), upd o.2.2.2.1 L (((x.toUInt32 >>> (Int32.toUInt32 (8 * 2) &&& Int32.toUInt32 31)).toInt32) &&& 255), o.2.2.2.2.1, o.2.2.2.2.2.1, o.2.2.2.2.2.2.1, o.2.2.2.2.2.2.2.1, o.2.2.2.2.2.2.2.2.1, o.2.2.2.2.2.2.2.2.2.1, o.2.2.2.2.2.2.2.2.2.2) mf wf q) (M' := mX3_append) dX6_feed_59 lkX6_223 mcX3_append hp_49 rfl (ev_X3_append (L := L) hL (by omega)) rfl rfl (Nat.le_of_ble_eq_true rfl) ?_
        refine xg_iinc (pc := 62) (y := 1) (ls' := [some (.ref 0), some (.int x), some (.int 3), some (.int 1)]) dX6_feed_62 rfl (by decide) (by decide) rfl ?_
        refine xg_goto (pc := 65) (tgt := 41) dX6_feed_65 (by decide) ?_
        refine xg_iload_n (pc := 41) dX6_feed_41 rfl ?_
        refine xg_if_lt (pc := 42) (tgt := 68) dX6_feed_42 (by decide) (fun c_42 => absurd c_42 (by decide)) (fun c_42 => ?_)
        refine xg_aload_n (pc := 45) dX6_feed_45 rfl ?_
        refine xg_get (pc := 46) dX6_feed_46 flX6_29 hp_0 rfl ?_
        refine xg_iload_n (pc := 49) dX6_feed_49 rfl ?_
        refine xg_bipush (v := 8) (pc := 50) dX6_feed_50 (by decide) ?_
        refine xg_iload_n (pc := 52) dX6_feed_52 rfl ?_
        refine xg_imul (pc := 53) dX6_feed_53 ?_
        refine xg_iushr (pc := 54) dX6_feed_54 ?_
        refine xg_sipush (v := 255) (pc := 55) dX6_feed_55 (by decide) ?_
        refine xg_iand (pc := 58) dX6_feed_58 ?_
        refine xg_cvV (pc := 59) (h1 := hp (tri f0 f1 f2) (o.1, o.2.1, nI (L + 1 + 1), upd (upd o.2.2.2.1 L (((x.toUInt32 >>> (Int32.toUInt32 (8 * 2) &&& Int32.toUInt32 31)).toInt32) &&& 255)) (L + 1) (((x.toUInt32 >>> (Int32.toUInt32 (8 * 1) &&& Int32.toUInt32 31)).toInt32) &&& 255), o.2.2.2.2.1, o.2.2.2.2.2.1, o.2.2.2.2.2.2.1, o.2.2.2.2.2.2.2.1, o.2.2.2.2.2.2.2.2.1, o.2.2.2.2.2.2.2.2.2.1, o.2.2.2.2.2.2.2.2.2.2) mf wf q) (M' := mX3_append) dX6_feed_59 lkX6_223 mcX3_append hp_49 rfl (ev_X3_append (L := L + 1) rfl (by omega)) rfl rfl (Nat.le_of_ble_eq_true rfl) ?_
        refine xg_iinc (pc := 62) (y := 0) (ls' := [some (.ref 0), some (.int x), some (.int 3), some (.int 0)]) dX6_feed_62 rfl (by decide) (by decide) rfl ?_
        refine xg_goto (pc := 65) (tgt := 41) dX6_feed_65 (by decide) ?_
        refine xg_iload_n (pc := 41) dX6_feed_41 rfl ?_
        refine xg_if_lt (pc := 42) (tgt := 68) dX6_feed_42 (by decide) (fun c_42 => absurd c_42 (by decide)) (fun c_42 => ?_)
        refine xg_aload_n (pc := 45) dX6_feed_45 rfl ?_
        refine xg_get (pc := 46) dX6_feed_46 flX6_29 hp_0 rfl ?_
        refine xg_iload_n (pc := 49) dX6_feed_49 rfl ?_
        refine xg_bipush (v := 8) (pc := 50) dX6_feed_50 (by decide) ?_
        refine xg_iload_n (pc := 52) dX6_feed_52 rfl ?_
        refine xg_imul (pc := 53) dX6_feed_53 ?_
        refine xg_iushr (pc := 54) dX6_feed_54 ?_
        refine xg_sipush (v := 255) (pc := 55) dX6_feed_55 (by decide) ?_
        refine xg_iand (pc := 58) dX6_feed_58 ?_
        refine xg_cvV (pc := 59) (h1 := hp (tri f0 f1 f2) (o.1, o.2.1, nI (L + 1 + 1 + 1), upd (upd (upd o.2.2.2.1 L (((x.toUInt32 >>> (Int32.toUInt32 (8 * 2) &&& Int32.toUInt32 31)).toInt32) &&& 255)) (L + 1) (((x.toUInt32 >>> (Int32.toUInt32 (8 * 1) &&& Int32.toUInt32 31)).toInt32) &&& 255)) (L + 1 + 1) (((x.toUInt32 >>> (Int32.toUInt32 (8 * 0) &&& Int32.toUInt32 31)).toInt32) &&& 255), o.2.2.2.2.1, o.2.2.2.2.2.1, o.2.2.2.2.2.2.1, o.2.2.2.2.2.2.2.1, o.2.2.2.2.2.2.2.2.1, o.2.2.2.2.2.2.2.2.2.1, o.2.2.2.2.2.2.2.2.2.2) mf wf q) (M' := mX3_append) dX6_feed_59 lkX6_223 mcX3_append hp_49 rfl (ev_X3_append (L := L + 1 + 1) rfl (by omega)) rfl rfl (Nat.le_of_ble_eq_true rfl) ?_
        refine xg_iinc (pc := 62) (y := -1) (ls' := [some (.ref 0), some (.int x), some (.int 3), some (.int (-1))]) dX6_feed_62 rfl (by decide) (by decide) rfl ?_
        refine xg_goto (pc := 65) (tgt := 41) dX6_feed_65 (by decide) ?_
        refine xg_iload_n (pc := 41) dX6_feed_41 rfl ?_
        refine xg_if_lt (pc := 42) (tgt := 68) dX6_feed_42 (by decide) (fun c_42 => ?_) (fun c_42 => absurd c_42 (by decide))
        refine xg_aload_n (pc := 68) dX6_feed_68 rfl ?_
        refine xg_get (pc := 69) dX6_feed_69 flX6_29 hp_0 rfl ?_
        refine xg_get (pc := 72) dX6_feed_72 flX6_220 hp_49 rfl ?_
        exact xg_iret (pc := 75) dX6_feed_75 rfl (cpR (by unfold c_feed; rw [hL, if_pos c_6, if_pos c_27, eL, ix_3, show (nI L + 3 : Int32) = nI (L + 3) from nI_add L 3]; rfl))
      ·
        refine xg_iload_n (pc := 37) dX6_feed_37 rfl ?_
        have hLn : L + 4 ≤ 120 := le120 (n := 4) c_27 hL2 (by decide)
        refine xg_iconst (v := 1) (pc := 38) dX6_feed_38 (by decide) ?_
        refine xg_isub (pc := 39) dX6_feed_39 ?_
        refine xg_eq (show (4 : Int32) - 1 = 3 by decide) ?_
        refine xg_istore_n (pc := 40) (ls' := [some (.ref 0), some (.int x), some (.int 4), some (.int 3)]) dX6_feed_40 (by decide) rfl ?_
        refine xg_iload_n (pc := 41) dX6_feed_41 rfl ?_
        refine xg_if_lt (pc := 42) (tgt := 68) dX6_feed_42 (by decide) (fun c_42 => absurd c_42 (by decide)) (fun c_42 => ?_)
        refine xg_aload_n (pc := 45) dX6_feed_45 rfl ?_
        refine xg_get (pc := 46) dX6_feed_46 flX6_29 hp_0 rfl ?_
        refine xg_iload_n (pc := 49) dX6_feed_49 rfl ?_
        refine xg_bipush (v := 8) (pc := 50) dX6_feed_50 (by decide) ?_
        refine xg_iload_n (pc := 52) dX6_feed_52 rfl ?_
        refine xg_imul (pc := 53) dX6_feed_53 ?_
        refine xg_iushr (pc := 54) dX6_feed_54 ?_
        refine xg_sipush (v := 255) (pc := 55) dX6_feed_55 (by decide) ?_
        refine xg_iand (pc := 58) dX6_feed_58 ?_
        refine xg_cvV (pc := 59) (h1 := hp (tri f0 f1 f2) (o.1, o.2.1, nI (L + 1), upd o.2.2.2.1 L (((x.toUInt32 >>> (Int32.toUInt32 (8 * 3) &&& Int32.toUInt32 31)).toInt32) &&& 255), o.2.2.2.2.1, o.2.2.2.2.2.1, o.2.2.2.2.2.2.1, o.2.2.2.2.2.2.2.1, o.2.2.2.2.2.2.2.2.1, o.2.2.2.2.2.2.2.2.2.1, o.2.2.2.2.2.2.2.2.2.2) mf wf q) (M' := mX3_append) dX6_feed_59 lkX6_223 mcX3_append hp_49 rfl (ev_X3_append (L := L) hL (by omega)) rfl rfl (Nat.le_of_ble_eq_true rfl) ?_
        refine xg_iinc (pc := 62) (y := 2) (ls' := [some (.ref 0), some (.int x), some (.int 4), some (.int 2)]) dX6_feed_62 rfl (by decide) (by decide) rfl ?_
        refine xg_goto (pc := 65) (tgt := 41) dX6_feed_65 (by decide) ?_
        refine xg_iload_n (pc := 41) dX6_feed_41 rfl ?_
        refine xg_if_lt (pc := 42) (tgt := 68) dX6_feed_42 (by decide) (fun c_42 => absurd c_42 (by decide)) (fun c_42 => ?_)
        refine xg_aload_n (pc := 45) dX6_feed_45 rfl ?_
        refine xg_get (pc := 46) dX6_feed_46 flX6_29 hp_0 rfl ?_
        refine xg_iload_n (pc := 49) dX6_feed_49 rfl ?_
        refine xg_bipush (v := 8) (pc := 50) dX6_feed_50 (by decide) ?_
        refine xg_iload_n (pc := 52) dX6_feed_52 rfl ?_
        refine xg_imul (pc := 53) dX6_feed_53 ?_
        refine xg_iushr (pc := 54) dX6_feed_54 ?_
        refine xg_sipush (v := 255) (pc := 55) dX6_feed_55 (by decide) ?_
        refine xg_iand (pc := 58) dX6_feed_58 ?_
        refine xg_cvV (pc := 59) (h1 := hp (tri f0 f1 f2) (o.1, o.2.1, nI (L + 1 + 1), upd (upd o.2.2.2.1 L (((x.toUInt32 >>> (Int32.toUInt32 (8 * 3) &&& Int32.toUInt32 31)).toInt32) &&& 255)) (L + 1) (((x.toUInt32 >>> (Int32.toUInt32 (8 * 2) &&& Int32.toUInt32 31)).toInt32) &&& 255), o.2.2.2.2.1, o.2.2.2.2.2.1, o.2.2.2.2.2.2.1, o.2.2.2.2.2.2.2.1, o.2.2.2.2.2.2.2.2.1, o.2.2.2.2.2.2.2.2.2.1, o.2.2.2.2.2.2.2.2.2.2) mf wf q) (M' := mX3_append) dX6_feed_59 lkX6_223 mcX3_append hp_49 rfl (ev_X3_append (L := L + 1) rfl (by omega)) rfl rfl (Nat.le_of_ble_eq_true rfl) ?_
        refine xg_iinc (pc := 62) (y := 1) (ls' := [some (.ref 0), some (.int x), some (.int 4), some (.int 1)]) dX6_feed_62 rfl (by decide) (by decide) rfl ?_
        refine xg_goto (pc := 65) (tgt := 41) dX6_feed_65 (by decide) ?_
        refine xg_iload_n (pc := 41) dX6_feed_41 rfl ?_
        refine xg_if_lt (pc := 42) (tgt := 68) dX6_feed_42 (by decide) (fun c_42 => absurd c_42 (by decide)) (fun c_42 => ?_)
        refine xg_aload_n (pc := 45) dX6_feed_45 rfl ?_
        refine xg_get (pc := 46) dX6_feed_46 flX6_29 hp_0 rfl ?_
        refine xg_iload_n (pc := 49) dX6_feed_49 rfl ?_
        refine xg_bipush (v := 8) (pc := 50) dX6_feed_50 (by decide) ?_
        refine xg_iload_n (pc := 52) dX6_feed_52 rfl ?_
        refine xg_imul (pc := 53) dX6_feed_53 ?_
        refine xg_iushr (pc := 54) dX6_feed_54 ?_
        refine xg_sipush (v := 255) (pc := 55) dX6_feed_55 (by decide) ?_
        refine xg_iand (pc := 58) dX6_feed_58 ?_
        refine xg_cvV (pc := 59) (h1 := hp (tri f0 f1 f2) (o.1, o.2.1, nI (L + 1 + 1 + 1), upd (upd (upd o.2.2.2.1 L (((x.toUInt32 >>> (Int32.toUInt32 (8 * 3) &&& Int32.toUInt32 31)).toInt32) &&& 255)) (L + 1) (((x.toUInt32 >>> (Int32.toUInt32 (8 * 2) &&& Int32.toUInt32 31)).toInt32) &&& 255)) (L + 1 + 1) (((x.toUInt32 >>> (Int32.toUInt32 (8 * 1) &&& Int32.toUInt32 31)).toInt32) &&& 255), o.2.2.2.2.1, o.2.2.2.2.2.1, o.2.2.2.2.2.2.1, o.2.2.2.2.2.2.2.1, o.2.2.2.2.2.2.2.2.1, o.2.2.2.2.2.2.2.2.2.1, o.2.2.2.2.2.2.2.2.2.2) mf wf q) (M' := mX3_append) dX6_feed_59 lkX6_223 mcX3_append hp_49 rfl (ev_X3_append (L := L + 1 + 1) rfl (by omega)) rfl rfl (Nat.le_of_ble_eq_true rfl) ?_
        refine xg_iinc (pc := 62) (y := 0) (ls' := [some (.ref 0), some (.int x), some (.int 4), some (.int 0)]) dX6_feed_62 rfl (by decide) (by decide) rfl ?_
        refine xg_goto (pc := 65) (tgt := 41) dX6_feed_65 (by decide) ?_
        refine xg_iload_n (pc := 41) dX6_feed_41 rfl ?_
        refine xg_if_lt (pc := 42) (tgt := 68) dX6_feed_42 (by decide) (fun c_42 => absurd c_42 (by decide)) (fun c_42 => ?_)
        refine xg_aload_n (pc := 45) dX6_feed_45 rfl ?_
        refine xg_get (pc := 46) dX6_feed_46 flX6_29 hp_0 rfl ?_
        refine xg_iload_n (pc := 49) dX6_feed_49 rfl ?_
        refine xg_bipush (v := 8) (pc := 50) dX6_feed_50 (by decide) ?_
        refine xg_iload_n (pc := 52) dX6_feed_52 rfl ?_
        refine xg_imul (pc := 53) dX6_feed_53 ?_
        refine xg_iushr (pc := 54) dX6_feed_54 ?_
        refine xg_sipush (v := 255) (pc := 55) dX6_feed_55 (by decide) ?_
        refine xg_iand (pc := 58) dX6_feed_58 ?_
        refine xg_cvV (pc := 59) (h1 := hp (tri f0 f1 f2) (o.1, o.2.1, nI (L + 1 + 1 + 1 + 1), upd (upd (upd (upd o.2.2.2.1 L (((x.toUInt32 >>> (Int32.toUInt32 (8 * 3) &&& Int32.toUInt32 31)).toInt32) &&& 255)) (L + 1) (((x.toUInt32 >>> (Int32.toUInt32 (8 * 2) &&& Int32.toUInt32 31)).toInt32) &&& 255)) (L + 1 + 1) (((x.toUInt32 >>> (Int32.toUInt32 (8 * 1) &&& Int32.toUInt32 31)).toInt32) &&& 255)) (L + 1 + 1 + 1) (((x.toUInt32 >>> (Int32.toUInt32 (8 * 0) &&& Int32.toUInt32 31)).toInt32) &&& 255), o.2.2.2.2.1, o.2.2.2.2.2.1, o.2.2.2.2.2.2.1, o.2.2.2.2.2.2.2.1, o.2.2.2.2.2.2.2.2.1, o.2.2.2.2.2.2.2.2.2.1, o.2.2.2.2.2.2.2.2.2.2) mf wf q) (M' := mX3_append) dX6_feed_59 lkX6_223 mcX3_append hp_49 rfl (ev_X3_append (L := L + 1 + 1 + 1) rfl (by omega)) rfl rfl (Nat.le_of_ble_eq_true rfl) ?_
        refine xg_iinc (pc := 62) (y := -1) (ls' := [some (.ref 0), some (.int x), some (.int 4), some (.int (-1))]) dX6_feed_62 rfl (by decide) (by decide) rfl ?_
        refine xg_goto (pc := 65) (tgt := 41) dX6_feed_65 (by decide) ?_
        refine xg_iload_n (pc := 41) dX6_feed_41 rfl ?_
        refine xg_if_lt (pc := 42) (tgt := 68) dX6_feed_42 (by decide) (fun c_42 => ?_) (fun c_42 => absurd c_42 (by decide))
        refine xg_aload_n (pc := 68) dX6_feed_68 rfl ?_
        refine xg_get (pc := 69) dX6_feed_69 flX6_29 hp_0 rfl ?_
        refine xg_get (pc := 72) dX6_feed_72 flX6_220 hp_49 rfl ?_
        exact xg_iret (pc := 75) dX6_feed_75 rfl (cpR (by unfold c_feed; rw [hL, if_pos c_6, if_pos c_27, eL, ix_4, show (nI L + 4 : Int32) = nI (L + 4) from nI_add L 4]; rfl))
    ·
      refine xg_aload_n (pc := 30) dX6_feed_30 rfl ?_
      refine xg_ldc (v := -1000000002) (pc := 31) dX6_feed_31 ccX6_94 ?_
      refine xg_cvI (pc := 33) (h1 := hp (tri f0 f1 f2) (o.1, upd o.2.1 1 (o.2.1 1 + 1), o.2.2.1, o.2.2.2.1, o.2.2.2.2.1, o.2.2.2.2.2.1, o.2.2.2.2.2.2.1, o.2.2.2.2.2.2.2.1, o.2.2.2.2.2.2.2.2.1, o.2.2.2.2.2.2.2.2.2.1, o.2.2.2.2.2.2.2.2.2.2) mf wf q) (x := -1000000002) (M' := mX6_finding) dX6_feed_33 lkX6_65 mcX6_finding hp_0 rfl (ev_X6_finding (j := 1) (by decide) (by decide)) rfl rfl (Nat.le_of_ble_eq_true rfl) ?_
      exact xg_iret (pc := 36) dX6_feed_36 rfl (cpR (by exact (if_pos c_6).trans (if_neg (by rw [hL]; exact c_27))))
  ·
    refine xg_aload_n (pc := 9) dX6_feed_9 rfl ?_
    refine xg_ldc (v := -1000000001) (pc := 10) dX6_feed_10 ccX6_64 ?_
    refine xg_cvI (pc := 12) (h1 := hp (tri f0 f1 f2) (o.1, upd o.2.1 0 (o.2.1 0 + 1), o.2.2.1, o.2.2.2.1, o.2.2.2.2.1, o.2.2.2.2.2.1, o.2.2.2.2.2.2.1, o.2.2.2.2.2.2.2.1, o.2.2.2.2.2.2.2.2.1, o.2.2.2.2.2.2.2.2.2.1, o.2.2.2.2.2.2.2.2.2.2) mf wf q) (x := -1000000001) (M' := mX6_finding) dX6_feed_12 lkX6_65 mcX6_finding hp_0 rfl (ev_X6_finding (j := 0) (by decide) (by decide)) rfl rfl (Nat.le_of_ble_eq_true rfl) ?_
    exact xg_iret (pc := 15) dX6_feed_15 rfl (cpR (by exact if_neg c_6))
set_option maxRecDepth 100000 in
set_option maxHeartbeats 4000000 in
theorem ev_X6_wipe   : xEv X false (d + 0) 0 0 mX6_wipe [.ref 0] (hp (tri f0 f1 f2) o mf wf q) (CP mf wf q ((.int o.2.2.1, oT o 0 o.2.2.2.1, f0, f2))) := by
  refine xEv.of (ls := [some (.ref 0), none]) mcX6_wipe.1.2.2.2.2 (Nat.le_of_ble_eq_true rfl) rfl ?_
  refine xg_aload_n (pc := 0) dX6_wipe_0 rfl ?_
  refine xg_get (pc := 1) dX6_wipe_1 flX6_29 hp_0 rfl ?_
  refine xg_get (pc := 4) dX6_wipe_4 flX6_220 hp_49 rfl ?_
  refine xg_istore_n (pc := 7) (ls' := [some (.ref 0), some (.int o.2.2.1)]) dX6_wipe_7 (by decide) rfl ?_
  refine xg_aload_n (pc := 8) dX6_wipe_8 rfl ?_
  refine xg_get (pc := 9) dX6_wipe_9 flX6_29 hp_0 rfl ?_
  refine xg_iconst (v := 0) (pc := 12) dX6_wipe_12 (by decide) ?_
  refine xg_puti (pc := 13) (h' := hp (tri f0 f1 f2) (o.1, o.2.1, 0, o.2.2.2.1, o.2.2.2.2.1, o.2.2.2.2.2.1, o.2.2.2.2.2.2.1, o.2.2.2.2.2.2.2.1, o.2.2.2.2.2.2.2.2.1, o.2.2.2.2.2.2.2.2.2.1, o.2.2.2.2.2.2.2.2.2.2) mf wf q) dX6_wipe_13 flX6_220 hp_49 (Nat.le_of_ble_eq_true rfl) hs_tl ?_
  refine xg_iload_n (pc := 16) dX6_wipe_16 rfl ?_
  exact xg_iret (pc := 17) dX6_wipe_17 rfl (cpR (by rfl))
set_option maxRecDepth 100000 in
set_option maxHeartbeats 4000000 in
theorem ev_X6_image  (okp : okP f0) : xEv X false (d + 2) 0 0 mX6_image [.ref 0] (hp (tri f0 f1 f2) o mf wf q) (CP mf wf q (c_image o f0 f2)) := by
  refine xEv.of (ls := [some (.ref 0)]) mcX6_image.1.2.2.2.2 (Nat.le_of_ble_eq_true rfl) rfl ?_
  refine xg_aload_n (pc := 0) dX6_image_0 rfl ?_
  refine xg_get (pc := 1) dX6_image_1 flX6_19 hp_0 rfl ?_
  refine xg_aload_n (pc := 4) dX6_image_4 rfl ?_
  refine xg_get (pc := 5) dX6_image_5 flX6_10 hp_0 rfl ?_
  refine xg_cvV (pc := 8) (h1 := hp (tri f0 f1 (bcF f0 f2)) o mf wf q) (M' := mX1_become) dX6_image_8 lkX6_188 mcX1_become (hp_lake2 ) rfl (ev_bec_20 okp.1.1) rfl rfl (Nat.le_of_ble_eq_true rfl) ?_
  refine xg_aload_n (pc := 11) dX6_image_11 rfl ?_
  refine xg_iconst (v := 1) (pc := 12) dX6_image_12 (by decide) ?_
  refine xg_put (pc := 13) (h' := hp (tri f0 f1 (bcF f0 f2)) (1, o.2.1, o.2.2.1, o.2.2.2.1, o.2.2.2.2.1, o.2.2.2.2.2.1, o.2.2.2.2.2.2.1, o.2.2.2.2.2.2.2.1, o.2.2.2.2.2.2.2.2.1, o.2.2.2.2.2.2.2.2.2.1, o.2.2.2.2.2.2.2.2.2.2) mf wf q) dX6_image_13 flX6_22 (Or.inl rfl) hp_0 (fun _ => ⟨rfl, rfl⟩) (Nat.le_of_ble_eq_true rfl) hs_sk ?_
  refine xg_iconst (v := 1) (pc := 16) dX6_image_16 (by decide) ?_
  exact xg_iret (pc := 17) dX6_image_17 rfl (cpR (by rfl))
set_option maxRecDepth 100000 in
set_option maxHeartbeats 4000000 in
theorem ev_X6_undo  (ok2 : okP f2) : xEv X false (d + 2) 0 0 mX6_undo [.ref 0] (hp (tri f0 f1 f2) o mf wf q) (CP mf wf q (c_undo o f0 f2)) := by
  refine xEv.of (ls := [some (.ref 0)]) mcX6_undo.1.2.2.2.2 (Nat.le_of_ble_eq_true rfl) rfl ?_
  refine xg_aload_n (pc := 0) dX6_undo_0 rfl ?_
  refine xg_get (pc := 1) dX6_undo_1 flX6_22 hp_0 rfl ?_
  refine xg_if_ne (pc := 4) (tgt := 14) dX6_undo_4 (by decide) (fun c_4 => ?_) (fun c_4 => ?_)
  ·
    refine xg_aload_n (pc := 14) dX6_undo_14 rfl ?_
    refine xg_get (pc := 15) dX6_undo_15 flX6_10 hp_0 rfl ?_
    refine xg_aload_n (pc := 18) dX6_undo_18 rfl ?_
    refine xg_get (pc := 19) dX6_undo_19 flX6_19 hp_0 rfl ?_
    refine xg_cvV (pc := 22) (h1 := hp (tri (bcF f2 f0) f1 f2) o mf wf q) (M' := mX1_become) dX6_undo_22 lkX6_188 mcX1_become (hp_lake0 ) rfl (ev_bec_02 ok2.1.1) rfl rfl (Nat.le_of_ble_eq_true rfl) ?_
    refine xg_aload_n (pc := 25) dX6_undo_25 rfl ?_
    refine xg_get (pc := 26) dX6_undo_26 flX6_10 hp_0 rfl ?_
    refine xg_get (pc := 29) dX6_undo_29 flX6_91 (hp_lake0 ) rfl ?_
    exact xg_iret (pc := 32) dX6_undo_32 rfl (cpR (by refine (if_neg c_4).trans ?_; rw [bcF_lv ok2.h8 3 (by omega)]))
  ·
    refine xg_aload_n (pc := 7) dX6_undo_7 rfl ?_
    refine xg_ldc (v := -1000000004) (pc := 8) dX6_undo_8 ccX6_195 ?_
    refine xg_cvI (pc := 10) (h1 := hp (tri f0 f1 f2) (o.1, upd o.2.1 3 (o.2.1 3 + 1), o.2.2.1, o.2.2.2.1, o.2.2.2.2.1, o.2.2.2.2.2.1, o.2.2.2.2.2.2.1, o.2.2.2.2.2.2.2.1, o.2.2.2.2.2.2.2.2.1, o.2.2.2.2.2.2.2.2.2.1, o.2.2.2.2.2.2.2.2.2.2) mf wf q) (x := -1000000004) (M' := mX6_finding) dX6_undo_10 lkX6_65 mcX6_finding hp_0 rfl (ev_X6_finding (j := 3) (by decide) (by decide)) rfl rfl (Nat.le_of_ble_eq_true rfl) ?_
    exact xg_iret (pc := 13) dX6_undo_13 rfl (cpR (by exact if_pos c_4))
set_option maxRecDepth 100000 in
set_option maxHeartbeats 4000000 in
theorem ev_X6_tear   : xEv X false (d + 0) 0 0 mX6_tear [.ref 0] (hp (tri f0 f1 f2) o mf wf q) (CP mf wf q (c_tear o f0 f2)) := by
  refine xEv.of (ls := [some (.ref 0), none]) mcX6_tear.1.2.2.2.2 (Nat.le_of_ble_eq_true rfl) rfl ?_
  refine xg_aload_n (pc := 0) dX6_tear_0 rfl ?_
  refine xg_get (pc := 1) dX6_tear_1 flX6_22 hp_0 rfl ?_
  refine xg_if_eq (pc := 4) (tgt := 11) dX6_tear_4 (by decide) (fun c_4 => ?_) (fun c_4 => ?_)
  ·
    refine xg_iconst (v := 0) (pc := 11) dX6_tear_11 (by decide) ?_
    refine xg_istore_n (pc := 12) (ls' := [some (.ref 0), some (.int 0)]) dX6_tear_12 (by decide) rfl ?_
    refine xg_aload_n (pc := 13) dX6_tear_13 rfl ?_
    refine xg_iconst (v := 0) (pc := 14) dX6_tear_14 (by decide) ?_
    refine xg_put (pc := 15) (h' := hp (tri f0 f1 f2) (0, o.2.1, o.2.2.1, o.2.2.2.1, o.2.2.2.2.1, o.2.2.2.2.2.1, o.2.2.2.2.2.2.1, o.2.2.2.2.2.2.2.1, o.2.2.2.2.2.2.2.2.1, o.2.2.2.2.2.2.2.2.2.1, o.2.2.2.2.2.2.2.2.2.2) mf wf q) dX6_tear_15 flX6_22 (Or.inl rfl) hp_0 (fun _ => ⟨rfl, rfl⟩) (Nat.le_of_ble_eq_true rfl) hs_sk ?_
    refine xg_iload_n (pc := 18) dX6_tear_18 rfl ?_
    exact xg_iret (pc := 19) dX6_tear_19 rfl (cpR (by unfold c_tear; first | rw [if_pos c_4] | rw [if_neg c_4]))
  ·
    refine xg_iconst (v := 1) (pc := 7) dX6_tear_7 (by decide) ?_
    refine xg_goto (pc := 8) (tgt := 12) dX6_tear_8 (by decide) ?_
    refine xg_istore_n (pc := 12) (ls' := [some (.ref 0), some (.int 1)]) dX6_tear_12 (by decide) rfl ?_
    refine xg_aload_n (pc := 13) dX6_tear_13 rfl ?_
    refine xg_iconst (v := 0) (pc := 14) dX6_tear_14 (by decide) ?_
    refine xg_put (pc := 15) (h' := hp (tri f0 f1 f2) (0, o.2.1, o.2.2.1, o.2.2.2.1, o.2.2.2.2.1, o.2.2.2.2.2.1, o.2.2.2.2.2.2.1, o.2.2.2.2.2.2.2.1, o.2.2.2.2.2.2.2.2.1, o.2.2.2.2.2.2.2.2.2.1, o.2.2.2.2.2.2.2.2.2.2) mf wf q) dX6_tear_15 flX6_22 (Or.inl rfl) hp_0 (fun _ => ⟨rfl, rfl⟩) (Nat.le_of_ble_eq_true rfl) hs_sk ?_
    refine xg_iload_n (pc := 18) dX6_tear_18 rfl ?_
    exact xg_iret (pc := 19) dX6_tear_19 rfl (cpR (by unfold c_tear; first | rw [if_pos c_4] | rw [if_neg c_4]))
set_option maxRecDepth 100000 in
set_option maxHeartbeats 4000000 in
theorem ev_X6_count {w : Int32} (okp : okP f0) : xEv X false (d + 3) 0 0 mX6_count [.ref 0, .int w] (hp (tri f0 f1 f2) o mf wf q) (CP mf wf q (c_count o f0 f2 w)) := by
  refine xEv.of (ls := [some (.ref 0), some (.int w)]) mcX6_count.1.2.2.2.2 (Nat.le_of_ble_eq_true rfl) rfl ?_
  refine xg_iload_n (pc := 0) dX6_count_0 rfl ?_
  by_cases w1_0 : w = 0
  ·
    refine xg_tswI (pc := 1) 0 (tgt := 36) dX6_count_1 (by rw [w1_0]; rfl) (by decide) rfl (by decide) ?_
    refine xg_aload_n (pc := 36) dX6_count_36 rfl ?_
    refine xg_get (pc := 37) dX6_count_37 flX6_10 hp_0 rfl ?_
    refine xg_get (pc := 40) dX6_count_40 flX6_91 (hp_lake0 ) rfl ?_
    exact xg_iret (pc := 43) dX6_count_43 rfl (cpR (by unfold c_count p_count; rw [if_pos w1_0]))
  by_cases w1_1 : w = 1
  ·
    refine xg_tswI (pc := 1) 1 (tgt := 44) dX6_count_1 (by rw [w1_1]; rfl) (by decide) rfl (by decide) ?_
    refine xg_aload_n (pc := 44) dX6_count_44 rfl ?_
    refine xg_get (pc := 45) dX6_count_45 flX6_29 hp_0 rfl ?_
    refine xg_get (pc := 48) dX6_count_48 flX6_220 hp_49 rfl ?_
    exact xg_iret (pc := 51) dX6_count_51 rfl (cpR (by unfold c_count p_count; rw [if_neg w1_0, if_pos w1_1]))
  by_cases w1_2 : w = 2
  ·
    refine xg_tswI (pc := 1) 2 (tgt := 52) dX6_count_1 (by rw [w1_2]; rfl) (by decide) rfl (by decide) ?_
    refine xg_aload_n (pc := 52) dX6_count_52 rfl ?_
    refine xg_get (pc := 53) dX6_count_53 flX6_10 hp_0 rfl ?_
    refine xg_get (pc := 56) dX6_count_56 flX6_140 (hp_lake0 ) rfl ?_
    exact xg_iret (pc := 59) dX6_count_59 rfl (cpR (by unfold c_count p_count; rw [if_neg w1_0, if_neg w1_1, if_pos w1_2]))
  by_cases w1_3 : w = 3
  ·
    refine xg_tswI (pc := 1) 3 (tgt := 60) dX6_count_1 (by rw [w1_3]; rfl) (by decide) rfl (by decide) ?_
    refine xg_aload_n (pc := 60) dX6_count_60 rfl ?_
    refine xg_get (pc := 61) dX6_count_61 flX6_10 hp_0 rfl ?_
    refine xg_cvI (pc := 64) (h1 := hp (tri f0 f1 f2) o mf wf q) (x := sumI (sB f0 3) (nB f0)) (M' := mX1_coinsOfAll) dX6_count_64 lkX6_176 mcX1_coinsOfAll (hp_lake0 ) rfl (ev0_X1_coinsOfAll okp.1.1) rfl rfl (Nat.le_of_ble_eq_true rfl) ?_
    exact xg_iret (pc := 67) dX6_count_67 rfl (cpR (by unfold c_count p_count; rw [if_neg w1_0, if_neg w1_1, if_neg w1_2, if_pos w1_3]))
  by_cases w1_4 : w = 4
  ·
    refine xg_tswI (pc := 1) 4 (tgt := 68) dX6_count_1 (by rw [w1_4]; rfl) (by decide) rfl (by decide) ?_
    refine xg_aload_n (pc := 68) dX6_count_68 rfl ?_
    refine xg_get (pc := 69) dX6_count_69 flX6_10 hp_0 rfl ?_
    refine xg_cvI (pc := 72) (h1 := hp (tri f0 f1 f2) o mf wf q) (x := sumI (sB f0 2) (nB f0)) (M' := mX1_holdOfAll) dX6_count_72 lkX6_202 mcX1_holdOfAll (hp_lake0 ) rfl (ev0_X1_holdOfAll okp.1.1) rfl rfl (Nat.le_of_ble_eq_true rfl) ?_
    exact xg_iret (pc := 75) dX6_count_75 rfl (cpR (by unfold c_count p_count; rw [if_neg w1_0, if_neg w1_1, if_neg w1_2, if_neg w1_3, if_pos w1_4]))
  refine xg_tswO (pc := 1) (tgt := 76) dX6_count_1 (by have := lv_neT (a := 0) w1_0 (by decide); have := lv_neT (a := 1) w1_1 (by decide); have := lv_neT (a := 2) w1_2 (by decide); have := lv_neT (a := 3) w1_3 (by decide); have := lv_neT (a := 4) w1_4 (by decide); omega) (by decide) ?_
  refine xg_aload_n (pc := 76) dX6_count_76 rfl ?_
  refine xg_ldc (v := -1000000001) (pc := 77) dX6_count_77 ccX6_64 ?_
  refine xg_cvI (pc := 79) (h1 := hp (tri f0 f1 f2) (o.1, upd o.2.1 0 (o.2.1 0 + 1), o.2.2.1, o.2.2.2.1, o.2.2.2.2.1, o.2.2.2.2.2.1, o.2.2.2.2.2.2.1, o.2.2.2.2.2.2.2.1, o.2.2.2.2.2.2.2.2.1, o.2.2.2.2.2.2.2.2.2.1, o.2.2.2.2.2.2.2.2.2.2) mf wf q) (x := -1000000001) (M' := mX6_finding) dX6_count_79 lkX6_65 mcX6_finding hp_0 rfl (ev_X6_finding (j := 0) (by decide) (by decide)) rfl rfl (Nat.le_of_ble_eq_true rfl) ?_
  exact xg_iret (pc := 82) dX6_count_82 rfl (cpR (by unfold c_count p_count; rw [if_neg w1_0, if_neg w1_1, if_neg w1_2, if_neg w1_3, if_neg w1_4]; rfl))
set_option maxRecDepth 100000 in
set_option maxHeartbeats 4000000 in
theorem ev_X6_status {w : Int32}  : xEv X false (d + 1) 0 0 mX6_status [.ref 0, .int w] (hp (tri f0 f1 f2) o mf wf q) (CP mf wf q (c_stat o f0 f2 w)) := by
  refine xEv.of (ls := [some (.ref 0), some (.int w), none, none]) mcX6_status.1.2.2.2.2 (Nat.le_of_ble_eq_true rfl) rfl ?_
  refine xg_iload_n (pc := 0) dX6_status_0 rfl ?_
  refine xg_if_lt (pc := 1) (tgt := 17) dX6_status_1 (by decide) (fun c_1 => ?_) (fun c_1 => ?_)
  ·
    refine xg_iload_n (pc := 17) dX6_status_17 rfl ?_
    refine xg_iconst (v := -1) (pc := 18) dX6_status_18 (by decide) ?_
    refine xg_icmp_eq (pc := 19) (tgt := 29) dX6_status_19 (by decide) (fun c_19 => ?_) (fun c_19 => ?_)
    ·
      refine xg_iconst (v := 0) (pc := 29) dX6_status_29 (by decide) ?_
      refine xg_istore_n (pc := 30) (ls' := [some (.ref 0), some (.int w), some (.int 0), none]) dX6_status_30 (by decide) rfl ?_
      refine xg_iconst (v := 0) (pc := 31) dX6_status_31 (by decide) ?_
      refine xg_istore_n (pc := 32) (ls' := [some (.ref 0), some (.int w), some (.int 0), some (.int 0)]) dX6_status_32 (by decide) rfl ?_
      refine xg_iload_n (pc := 33) dX6_status_33 rfl ?_
      refine xg_bipush (v := 7) (pc := 34) dX6_status_34 (by decide) ?_
      refine xg_icmp_ge (pc := 36) (tgt := 54) dX6_status_36 (by decide) (fun c_36 => absurd c_36 (by decide)) (fun c_36 => ?_)
      refine xg_iload_n (pc := 39) dX6_status_39 rfl ?_
      refine xg_aload_n (pc := 40) dX6_status_40 rfl ?_
      refine xg_get (pc := 41) dX6_status_41 flX6_49 hp_0 rfl ?_
      refine xg_iload_n (pc := 44) dX6_status_44 rfl ?_
      refine xg_iald (pc := 45) 0 dX6_status_45 hp_61 rfl (by omega) (by decide) ?_
      refine xg_iadd (pc := 46) dX6_status_46 ?_
      refine xg_istore_n (pc := 47) (ls' := [some (.ref 0), some (.int w), some (.int (0 + (o.2.1 0))), some (.int 0)]) dX6_status_47 (by decide) rfl ?_
      refine xg_iinc (pc := 48) (y := 1) (ls' := [some (.ref 0), some (.int w), some (.int (0 + (o.2.1 0))), some (.int 1)]) dX6_status_48 rfl (by decide) (by decide) rfl ?_
      refine xg_goto (pc := 51) (tgt := 33) dX6_status_51 (by decide) ?_
      refine xg_iload_n (pc := 33) dX6_status_33 rfl ?_
      refine xg_bipush (v := 7) (pc := 34) dX6_status_34 (by decide) ?_
      refine xg_icmp_ge (pc := 36) (tgt := 54) dX6_status_36 (by decide) (fun c_36 => absurd c_36 (by decide)) (fun c_36 => ?_)
      refine xg_iload_n (pc := 39) dX6_status_39 rfl ?_
      refine xg_aload_n (pc := 40) dX6_status_40 rfl ?_
      refine xg_get (pc := 41) dX6_status_41 flX6_49 hp_0 rfl ?_
      refine xg_iload_n (pc := 44) dX6_status_44 rfl ?_
      refine xg_iald (pc := 45) 1 dX6_status_45 hp_61 rfl (by omega) (by decide) ?_
      refine xg_iadd (pc := 46) dX6_status_46 ?_
      refine xg_istore_n (pc := 47) (ls' := [some (.ref 0), some (.int w), some (.int ((0 + (o.2.1 0)) + (o.2.1 1))), some (.int 1)]) dX6_status_47 (by decide) rfl ?_
      refine xg_iinc (pc := 48) (y := 2) (ls' := [some (.ref 0), some (.int w), some (.int ((0 + (o.2.1 0)) + (o.2.1 1))), some (.int 2)]) dX6_status_48 rfl (by decide) (by decide) rfl ?_
      refine xg_goto (pc := 51) (tgt := 33) dX6_status_51 (by decide) ?_
      refine xg_iload_n (pc := 33) dX6_status_33 rfl ?_
      refine xg_bipush (v := 7) (pc := 34) dX6_status_34 (by decide) ?_
      refine xg_icmp_ge (pc := 36) (tgt := 54) dX6_status_36 (by decide) (fun c_36 => absurd c_36 (by decide)) (fun c_36 => ?_)
      refine xg_iload_n (pc := 39) dX6_status_39 rfl ?_
      refine xg_aload_n (pc := 40) dX6_status_40 rfl ?_
      refine xg_get (pc := 41) dX6_status_41 flX6_49 hp_0 rfl ?_
      refine xg_iload_n (pc := 44) dX6_status_44 rfl ?_
      refine xg_iald (pc := 45) 2 dX6_status_45 hp_61 rfl (by omega) (by decide) ?_
      refine xg_iadd (pc := 46) dX6_status_46 ?_
      refine xg_istore_n (pc := 47) (ls' := [some (.ref 0), some (.int w), some (.int (((0 + (o.2.1 0)) + (o.2.1 1)) + (o.2.1 2))), some (.int 2)]) dX6_status_47 (by decide) rfl ?_
      refine xg_iinc (pc := 48) (y := 3) (ls' := [some (.ref 0), some (.int w), some (.int (((0 + (o.2.1 0)) + (o.2.1 1)) + (o.2.1 2))), some (.int 3)]) dX6_status_48 rfl (by decide) (by decide) rfl ?_
      refine xg_goto (pc := 51) (tgt := 33) dX6_status_51 (by decide) ?_
      refine xg_iload_n (pc := 33) dX6_status_33 rfl ?_
      refine xg_bipush (v := 7) (pc := 34) dX6_status_34 (by decide) ?_
      refine xg_icmp_ge (pc := 36) (tgt := 54) dX6_status_36 (by decide) (fun c_36 => absurd c_36 (by decide)) (fun c_36 => ?_)
      refine xg_iload_n (pc := 39) dX6_status_39 rfl ?_
      refine xg_aload_n (pc := 40) dX6_status_40 rfl ?_
      refine xg_get (pc := 41) dX6_status_41 flX6_49 hp_0 rfl ?_
      refine xg_iload_n (pc := 44) dX6_status_44 rfl ?_
      refine xg_iald (pc := 45) 3 dX6_status_45 hp_61 rfl (by omega) (by decide) ?_
      refine xg_iadd (pc := 46) dX6_status_46 ?_
      refine xg_istore_n (pc := 47) (ls' := [some (.ref 0), some (.int w), some (.int ((((0 + (o.2.1 0)) + (o.2.1 1)) + (o.2.1 2)) + (o.2.1 3))), some (.int 3)]) dX6_status_47 (by decide) rfl ?_
      refine xg_iinc (pc := 48) (y := 4) (ls' := [some (.ref 0), some (.int w), some (.int ((((0 + (o.2.1 0)) + (o.2.1 1)) + (o.2.1 2)) + (o.2.1 3))), some (.int 4)]) dX6_status_48 rfl (by decide) (by decide) rfl ?_
      refine xg_goto (pc := 51) (tgt := 33) dX6_status_51 (by decide) ?_
      refine xg_iload_n (pc := 33) dX6_status_33 rfl ?_
      refine xg_bipush (v := 7) (pc := 34) dX6_status_34 (by decide) ?_
      refine xg_icmp_ge (pc := 36) (tgt := 54) dX6_status_36 (by decide) (fun c_36 => absurd c_36 (by decide)) (fun c_36 => ?_)
      refine xg_iload_n (pc := 39) dX6_status_39 rfl ?_
      refine xg_aload_n (pc := 40) dX6_status_40 rfl ?_
      refine xg_get (pc := 41) dX6_status_41 flX6_49 hp_0 rfl ?_
      refine xg_iload_n (pc := 44) dX6_status_44 rfl ?_
      refine xg_iald (pc := 45) 4 dX6_status_45 hp_61 rfl (by omega) (by decide) ?_
      refine xg_iadd (pc := 46) dX6_status_46 ?_
      refine xg_istore_n (pc := 47) (ls' := [some (.ref 0), some (.int w), some (.int (((((0 + (o.2.1 0)) + (o.2.1 1)) + (o.2.1 2)) + (o.2.1 3)) + (o.2.1 4))), some (.int 4)]) dX6_status_47 (by decide) rfl ?_
      refine xg_iinc (pc := 48) (y := 5) (ls' := [some (.ref 0), some (.int w), some (.int (((((0 + (o.2.1 0)) + (o.2.1 1)) + (o.2.1 2)) + (o.2.1 3)) + (o.2.1 4))), some (.int 5)]) dX6_status_48 rfl (by decide) (by decide) rfl ?_
      refine xg_goto (pc := 51) (tgt := 33) dX6_status_51 (by decide) ?_
      refine xg_iload_n (pc := 33) dX6_status_33 rfl ?_
      refine xg_bipush (v := 7) (pc := 34) dX6_status_34 (by decide) ?_
      refine xg_icmp_ge (pc := 36) (tgt := 54) dX6_status_36 (by decide) (fun c_36 => absurd c_36 (by decide)) (fun c_36 => ?_)
      refine xg_iload_n (pc := 39) dX6_status_39 rfl ?_
      refine xg_aload_n (pc := 40) dX6_status_40 rfl ?_
      refine xg_get (pc := 41) dX6_status_41 flX6_49 hp_0 rfl ?_
      refine xg_iload_n (pc := 44) dX6_status_44 rfl ?_
      refine xg_iald (pc := 45) 5 dX6_status_45 hp_61 rfl (by omega) (by decide) ?_
      refine xg_iadd (pc := 46) dX6_status_46 ?_
      refine xg_istore_n (pc := 47) (ls' := [some (.ref 0), some (.int w), some (.int ((((((0 + (o.2.1 0)) + (o.2.1 1)) + (o.2.1 2)) + (o.2.1 3)) + (o.2.1 4)) + (o.2.1 5))), some (.int 5)]) dX6_status_47 (by decide) rfl ?_
      refine xg_iinc (pc := 48) (y := 6) (ls' := [some (.ref 0), some (.int w), some (.int ((((((0 + (o.2.1 0)) + (o.2.1 1)) + (o.2.1 2)) + (o.2.1 3)) + (o.2.1 4)) + (o.2.1 5))), some (.int 6)]) dX6_status_48 rfl (by decide) (by decide) rfl ?_
      refine xg_goto (pc := 51) (tgt := 33) dX6_status_51 (by decide) ?_
      refine xg_iload_n (pc := 33) dX6_status_33 rfl ?_
      refine xg_bipush (v := 7) (pc := 34) dX6_status_34 (by decide) ?_
      refine xg_icmp_ge (pc := 36) (tgt := 54) dX6_status_36 (by decide) (fun c_36 => absurd c_36 (by decide)) (fun c_36 => ?_)
      refine xg_iload_n (pc := 39) dX6_status_39 rfl ?_
      refine xg_aload_n (pc := 40) dX6_status_40 rfl ?_
      refine xg_get (pc := 41) dX6_status_41 flX6_49 hp_0 rfl ?_
      refine xg_iload_n (pc := 44) dX6_status_44 rfl ?_
      refine xg_iald (pc := 45) 6 dX6_status_45 hp_61 rfl (by omega) (by decide) ?_
      refine xg_iadd (pc := 46) dX6_status_46 ?_
      refine xg_istore_n (pc := 47) (ls' := [some (.ref 0), some (.int w), some (.int (((((((0 + (o.2.1 0)) + (o.2.1 1)) + (o.2.1 2)) + (o.2.1 3)) + (o.2.1 4)) + (o.2.1 5)) + (o.2.1 6))), some (.int 6)]) dX6_status_47 (by decide) rfl ?_
      refine xg_iinc (pc := 48) (y := 7) (ls' := [some (.ref 0), some (.int w), some (.int (((((((0 + (o.2.1 0)) + (o.2.1 1)) + (o.2.1 2)) + (o.2.1 3)) + (o.2.1 4)) + (o.2.1 5)) + (o.2.1 6))), some (.int 7)]) dX6_status_48 rfl (by decide) (by decide) rfl ?_
      refine xg_goto (pc := 51) (tgt := 33) dX6_status_51 (by decide) ?_
      refine xg_iload_n (pc := 33) dX6_status_33 rfl ?_
      refine xg_bipush (v := 7) (pc := 34) dX6_status_34 (by decide) ?_
      refine xg_icmp_ge (pc := 36) (tgt := 54) dX6_status_36 (by decide) (fun c_36 => ?_) (fun c_36 => absurd c_36 (by decide))
      refine xg_iload_n (pc := 54) dX6_status_54 rfl ?_
      exact xg_iret (pc := 55) dX6_status_55 rfl (cpR (by unfold c_stat p_stat; rw [if_neg (fun q => Int32.not_lt.mpr q.1 c_1), if_pos c_19]; rfl))
    ·
      refine xg_aload_n (pc := 22) dX6_status_22 rfl ?_
      refine xg_ldc (v := -1000000001) (pc := 23) dX6_status_23 ccX6_64 ?_
      refine xg_cvI (pc := 25) (h1 := hp (tri f0 f1 f2) (o.1, upd o.2.1 0 (o.2.1 0 + 1), o.2.2.1, o.2.2.2.1, o.2.2.2.2.1, o.2.2.2.2.2.1, o.2.2.2.2.2.2.1, o.2.2.2.2.2.2.2.1, o.2.2.2.2.2.2.2.2.1, o.2.2.2.2.2.2.2.2.2.1, o.2.2.2.2.2.2.2.2.2.2) mf wf q) (x := -1000000001) (M' := mX6_finding) dX6_status_25 lkX6_65 mcX6_finding hp_0 rfl (ev_X6_finding (j := 0) (by decide) (by decide)) rfl rfl (Nat.le_of_ble_eq_true rfl) ?_
      exact xg_iret (pc := 28) dX6_status_28 rfl (cpR (by unfold c_stat p_stat; rw [if_neg (fun q => Int32.not_lt.mpr q.1 c_1), if_neg c_19]; rfl))
  ·
    refine xg_iload_n (pc := 4) dX6_status_4 rfl ?_
    refine xg_bipush (v := 7) (pc := 5) dX6_status_5 (by decide) ?_
    refine xg_icmp_ge (pc := 7) (tgt := 17) dX6_status_7 (by decide) (fun c_7 => ?_) (fun c_7 => ?_)
    ·
      refine xg_iload_n (pc := 17) dX6_status_17 rfl ?_
      refine xg_iconst (v := -1) (pc := 18) dX6_status_18 (by decide) ?_
      refine xg_icmp_eq (pc := 19) (tgt := 29) dX6_status_19 (by decide) (fun c_19 => ?_) (fun c_19 => ?_)
      ·
        refine xg_iconst (v := 0) (pc := 29) dX6_status_29 (by decide) ?_
        refine xg_istore_n (pc := 30) (ls' := [some (.ref 0), some (.int w), some (.int 0), none]) dX6_status_30 (by decide) rfl ?_
        refine xg_iconst (v := 0) (pc := 31) dX6_status_31 (by decide) ?_
        refine xg_istore_n (pc := 32) (ls' := [some (.ref 0), some (.int w), some (.int 0), some (.int 0)]) dX6_status_32 (by decide) rfl ?_
        refine xg_iload_n (pc := 33) dX6_status_33 rfl ?_
        refine xg_bipush (v := 7) (pc := 34) dX6_status_34 (by decide) ?_
        refine xg_icmp_ge (pc := 36) (tgt := 54) dX6_status_36 (by decide) (fun c_36 => absurd c_36 (by decide)) (fun c_36 => ?_)
        refine xg_iload_n (pc := 39) dX6_status_39 rfl ?_
        refine xg_aload_n (pc := 40) dX6_status_40 rfl ?_
        refine xg_get (pc := 41) dX6_status_41 flX6_49 hp_0 rfl ?_
        refine xg_iload_n (pc := 44) dX6_status_44 rfl ?_
        refine xg_iald (pc := 45) 0 dX6_status_45 hp_61 rfl (by omega) (by decide) ?_
        refine xg_iadd (pc := 46) dX6_status_46 ?_
        refine xg_istore_n (pc := 47) (ls' := [some (.ref 0), some (.int w), some (.int (0 + (o.2.1 0))), some (.int 0)]) dX6_status_47 (by decide) rfl ?_
        refine xg_iinc (pc := 48) (y := 1) (ls' := [some (.ref 0), some (.int w), some (.int (0 + (o.2.1 0))), some (.int 1)]) dX6_status_48 rfl (by decide) (by decide) rfl ?_
        refine xg_goto (pc := 51) (tgt := 33) dX6_status_51 (by decide) ?_
        refine xg_iload_n (pc := 33) dX6_status_33 rfl ?_
        refine xg_bipush (v := 7) (pc := 34) dX6_status_34 (by decide) ?_
        refine xg_icmp_ge (pc := 36) (tgt := 54) dX6_status_36 (by decide) (fun c_36 => absurd c_36 (by decide)) (fun c_36 => ?_)
        refine xg_iload_n (pc := 39) dX6_status_39 rfl ?_
        refine xg_aload_n (pc := 40) dX6_status_40 rfl ?_
        refine xg_get (pc := 41) dX6_status_41 flX6_49 hp_0 rfl ?_
        refine xg_iload_n (pc := 44) dX6_status_44 rfl ?_
        refine xg_iald (pc := 45) 1 dX6_status_45 hp_61 rfl (by omega) (by decide) ?_
        refine xg_iadd (pc := 46) dX6_status_46 ?_
        refine xg_istore_n (pc := 47) (ls' := [some (.ref 0), some (.int w), some (.int ((0 + (o.2.1 0)) + (o.2.1 1))), some (.int 1)]) dX6_status_47 (by decide) rfl ?_
        refine xg_iinc (pc := 48) (y := 2) (ls' := [some (.ref 0), some (.int w), some (.int ((0 + (o.2.1 0)) + (o.2.1 1))), some (.int 2)]) dX6_status_48 rfl (by decide) (by decide) rfl ?_
        refine xg_goto (pc := 51) (tgt := 33) dX6_status_51 (by decide) ?_
        refine xg_iload_n (pc := 33) dX6_status_33 rfl ?_
        refine xg_bipush (v := 7) (pc := 34) dX6_status_34 (by decide) ?_
        refine xg_icmp_ge (pc := 36) (tgt := 54) dX6_status_36 (by decide) (fun c_36 => absurd c_36 (by decide)) (fun c_36 => ?_)
        refine xg_iload_n (pc := 39) dX6_status_39 rfl ?_
        refine xg_aload_n (pc := 40) dX6_status_40 rfl ?_
        refine xg_get (pc := 41) dX6_status_41 flX6_49 hp_0 rfl ?_
        refine xg_iload_n (pc := 44) dX6_status_44 rfl ?_
        refine xg_iald (pc := 45) 2 dX6_status_45 hp_61 rfl (by omega) (by decide) ?_
        refine xg_iadd (pc := 46) dX6_status_46 ?_
        refine xg_istore_n (pc := 47) (ls' := [some (.ref 0), some (.int w), some (.int (((0 + (o.2.1 0)) + (o.2.1 1)) + (o.2.1 2))), some (.int 2)]) dX6_status_47 (by decide) rfl ?_
        refine xg_iinc (pc := 48) (y := 3) (ls' := [some (.ref 0), some (.int w), some (.int (((0 + (o.2.1 0)) + (o.2.1 1)) + (o.2.1 2))), some (.int 3)]) dX6_status_48 rfl (by decide) (by decide) rfl ?_
        refine xg_goto (pc := 51) (tgt := 33) dX6_status_51 (by decide) ?_
        refine xg_iload_n (pc := 33) dX6_status_33 rfl ?_
        refine xg_bipush (v := 7) (pc := 34) dX6_status_34 (by decide) ?_
        refine xg_icmp_ge (pc := 36) (tgt := 54) dX6_status_36 (by decide) (fun c_36 => absurd c_36 (by decide)) (fun c_36 => ?_)
        refine xg_iload_n (pc := 39) dX6_status_39 rfl ?_
        refine xg_aload_n (pc := 40) dX6_status_40 rfl ?_
        refine xg_get (pc := 41) dX6_status_41 flX6_49 hp_0 rfl ?_
        refine xg_iload_n (pc := 44) dX6_status_44 rfl ?_
        refine xg_iald (pc := 45) 3 dX6_status_45 hp_61 rfl (by omega) (by decide) ?_
        refine xg_iadd (pc := 46) dX6_status_46 ?_
        refine xg_istore_n (pc := 47) (ls' := [some (.ref 0), some (.int w), some (.int ((((0 + (o.2.1 0)) + (o.2.1 1)) + (o.2.1 2)) + (o.2.1 3))), some (.int 3)]) dX6_status_47 (by decide) rfl ?_
        refine xg_iinc (pc := 48) (y := 4) (ls' := [some (.ref 0), some (.int w), some (.int ((((0 + (o.2.1 0)) + (o.2.1 1)) + (o.2.1 2)) + (o.2.1 3))), some (.int 4)]) dX6_status_48 rfl (by decide) (by decide) rfl ?_
        refine xg_goto (pc := 51) (tgt := 33) dX6_status_51 (by decide) ?_
        refine xg_iload_n (pc := 33) dX6_status_33 rfl ?_
        refine xg_bipush (v := 7) (pc := 34) dX6_status_34 (by decide) ?_
        refine xg_icmp_ge (pc := 36) (tgt := 54) dX6_status_36 (by decide) (fun c_36 => absurd c_36 (by decide)) (fun c_36 => ?_)
        refine xg_iload_n (pc := 39) dX6_status_39 rfl ?_
        refine xg_aload_n (pc := 40) dX6_status_40 rfl ?_
        refine xg_get (pc := 41) dX6_status_41 flX6_49 hp_0 rfl ?_
        refine xg_iload_n (pc := 44) dX6_status_44 rfl ?_
        refine xg_iald (pc := 45) 4 dX6_status_45 hp_61 rfl (by omega) (by decide) ?_
        refine xg_iadd (pc := 46) dX6_status_46 ?_
        refine xg_istore_n (pc := 47) (ls' := [some (.ref 0), some (.int w), some (.int (((((0 + (o.2.1 0)) + (o.2.1 1)) + (o.2.1 2)) + (o.2.1 3)) + (o.2.1 4))), some (.int 4)]) dX6_status_47 (by decide) rfl ?_
        refine xg_iinc (pc := 48) (y := 5) (ls' := [some (.ref 0), some (.int w), some (.int (((((0 + (o.2.1 0)) + (o.2.1 1)) + (o.2.1 2)) + (o.2.1 3)) + (o.2.1 4))), some (.int 5)]) dX6_status_48 rfl (by decide) (by decide) rfl ?_
        refine xg_goto (pc := 51) (tgt := 33) dX6_status_51 (by decide) ?_
        refine xg_iload_n (pc := 33) dX6_status_33 rfl ?_
        refine xg_bipush (v := 7) (pc := 34) dX6_status_34 (by decide) ?_
        refine xg_icmp_ge (pc := 36) (tgt := 54) dX6_status_36 (by decide) (fun c_36 => absurd c_36 (by decide)) (fun c_36 => ?_)
        refine xg_iload_n (pc := 39) dX6_status_39 rfl ?_
        refine xg_aload_n (pc := 40) dX6_status_40 rfl ?_
        refine xg_get (pc := 41) dX6_status_41 flX6_49 hp_0 rfl ?_
        refine xg_iload_n (pc := 44) dX6_status_44 rfl ?_
        refine xg_iald (pc := 45) 5 dX6_status_45 hp_61 rfl (by omega) (by decide) ?_
        refine xg_iadd (pc := 46) dX6_status_46 ?_
        refine xg_istore_n (pc := 47) (ls' := [some (.ref 0), some (.int w), some (.int ((((((0 + (o.2.1 0)) + (o.2.1 1)) + (o.2.1 2)) + (o.2.1 3)) + (o.2.1 4)) + (o.2.1 5))), some (.int 5)]) dX6_status_47 (by decide) rfl ?_
        refine xg_iinc (pc := 48) (y := 6) (ls' := [some (.ref 0), some (.int w), some (.int ((((((0 + (o.2.1 0)) + (o.2.1 1)) + (o.2.1 2)) + (o.2.1 3)) + (o.2.1 4)) + (o.2.1 5))), some (.int 6)]) dX6_status_48 rfl (by decide) (by decide) rfl ?_
        refine xg_goto (pc := 51) (tgt := 33) dX6_status_51 (by decide) ?_
        refine xg_iload_n (pc := 33) dX6_status_33 rfl ?_
        refine xg_bipush (v := 7) (pc := 34) dX6_status_34 (by decide) ?_
        refine xg_icmp_ge (pc := 36) (tgt := 54) dX6_status_36 (by decide) (fun c_36 => absurd c_36 (by decide)) (fun c_36 => ?_)
        refine xg_iload_n (pc := 39) dX6_status_39 rfl ?_
        refine xg_aload_n (pc := 40) dX6_status_40 rfl ?_
        refine xg_get (pc := 41) dX6_status_41 flX6_49 hp_0 rfl ?_
        refine xg_iload_n (pc := 44) dX6_status_44 rfl ?_
        refine xg_iald (pc := 45) 6 dX6_status_45 hp_61 rfl (by omega) (by decide) ?_
        refine xg_iadd (pc := 46) dX6_status_46 ?_
        refine xg_istore_n (pc := 47) (ls' := [some (.ref 0), some (.int w), some (.int (((((((0 + (o.2.1 0)) + (o.2.1 1)) + (o.2.1 2)) + (o.2.1 3)) + (o.2.1 4)) + (o.2.1 5)) + (o.2.1 6))), some (.int 6)]) dX6_status_47 (by decide) rfl ?_
        refine xg_iinc (pc := 48) (y := 7) (ls' := [some (.ref 0), some (.int w), some (.int (((((((0 + (o.2.1 0)) + (o.2.1 1)) + (o.2.1 2)) + (o.2.1 3)) + (o.2.1 4)) + (o.2.1 5)) + (o.2.1 6))), some (.int 7)]) dX6_status_48 rfl (by decide) (by decide) rfl ?_
        refine xg_goto (pc := 51) (tgt := 33) dX6_status_51 (by decide) ?_
        refine xg_iload_n (pc := 33) dX6_status_33 rfl ?_
        refine xg_bipush (v := 7) (pc := 34) dX6_status_34 (by decide) ?_
        refine xg_icmp_ge (pc := 36) (tgt := 54) dX6_status_36 (by decide) (fun c_36 => ?_) (fun c_36 => absurd c_36 (by decide))
        refine xg_iload_n (pc := 54) dX6_status_54 rfl ?_
        exact xg_iret (pc := 55) dX6_status_55 rfl (cpR (by unfold c_stat p_stat; rw [if_neg (fun q => absurd (Int32.le_trans c_7 q.2) (by decide)), if_pos c_19]; rfl))
      ·
        refine xg_aload_n (pc := 22) dX6_status_22 rfl ?_
        refine xg_ldc (v := -1000000001) (pc := 23) dX6_status_23 ccX6_64 ?_
        refine xg_cvI (pc := 25) (h1 := hp (tri f0 f1 f2) (o.1, upd o.2.1 0 (o.2.1 0 + 1), o.2.2.1, o.2.2.2.1, o.2.2.2.2.1, o.2.2.2.2.2.1, o.2.2.2.2.2.2.1, o.2.2.2.2.2.2.2.1, o.2.2.2.2.2.2.2.2.1, o.2.2.2.2.2.2.2.2.2.1, o.2.2.2.2.2.2.2.2.2.2) mf wf q) (x := -1000000001) (M' := mX6_finding) dX6_status_25 lkX6_65 mcX6_finding hp_0 rfl (ev_X6_finding (j := 0) (by decide) (by decide)) rfl rfl (Nat.le_of_ble_eq_true rfl) ?_
        exact xg_iret (pc := 28) dX6_status_28 rfl (cpR (by unfold c_stat p_stat; rw [if_neg (fun q => absurd (Int32.le_trans c_7 q.2) (by decide)), if_neg c_19]; rfl))
    ·
      obtain ⟨wn, hwn, rfl⟩ := rngN (n := 6) (lt7_le6 c_1 c_7) (by decide)
      have ewn : ix (nI wn) = wn := nI_clamp (by omega)
      refine xg_aload_n (pc := 10) dX6_status_10 rfl ?_
      refine xg_get (pc := 11) dX6_status_11 flX6_49 hp_0 rfl ?_
      refine xg_iload_n (pc := 14) dX6_status_14 rfl ?_
      refine xg_iald (pc := 15) wn dX6_status_15 hp_61 rfl (by omega) (by decide) ?_
      exact xg_iret (pc := 16) dX6_status_16 rfl (cpR (by unfold c_stat p_stat; rw [if_pos (lt7_le6 c_1 c_7), ewn]))
end
