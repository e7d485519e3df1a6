section
variable {X : xS} {d : Nat} {lk : Nat → Nat → Int32} {o : xO} {mf wf : Nat → Int32} {q : xQ}
set_option maxRecDepth 100000 in
set_option maxHeartbeats 4000000 in
theorem ev_X7_feed {L : Nat} {x n : Int32} (hL : q.2.2.2.2.2.2.1 = nI L) (hL2 : L ≤ 120) : xEv X false (d + 1) 0 0 mX7_feed [.ref 62, .int x, .int n] (hp lk o mf wf q) (RP lk o (r_feed q mf x n)) := by
  have eL : ix (nI L) = L := nI_clamp (by omega)
  refine xEv.of (ls := [some (.ref 62), some (.int x), some (.int n), none]) mcX7_feed.1.2.2.2.2 (Nat.le_of_ble_eq_true rfl) rfl ?_
  refine xg_iload_n (pc := 0) dX7_feed_0 rfl ?_
  refine xg_i2l (pc := 1) dX7_feed_1 ?_
  refine xg_iconst (v := 1) (pc := 2) dX7_feed_2 (by decide) ?_
  refine xg_iconst (v := 4) (pc := 3) dX7_feed_3 (by decide) ?_
  refine xg_csI (pc := 4) (h1 := hp lk o mf wf q) (x := if 1 ≤ n ∧ n ≤ 4 then 1 else 0) (M' := mX7_in) dX7_feed_4 lkX7_48 mcX7_in (ev_in) rfl rfl (Nat.le_of_ble_eq_true rfl) ?_
  refine xg_bnz (pc := 7) (tgt := 17) dX7_feed_7 (by decide) (fun c_7 => ?_) (fun c_7 => ?_)
  ·
    refine xg_aload_n (pc := 17) dX7_feed_17 rfl ?_
    refine xg_get (pc := 18) dX7_feed_18 flX7_169 hp_62 rfl ?_
    refine xg_eq hL ?_
    refine xg_iload_n (pc := 21) dX7_feed_21 rfl ?_
    refine xg_iadd (pc := 22) dX7_feed_22 ?_
    refine xg_bipush (v := 120) (pc := 23) dX7_feed_23 (by decide) ?_
    refine xg_icmp_le (pc := 25) (tgt := 35) dX7_feed_25 (by decide) (fun c_25 => ?_) (fun c_25 => ?_)
    ·
      rcases n14 c_7 with rfl | rfl | rfl | rfl
      ·
        refine xg_iload_n (pc := 35) dX7_feed_35 rfl ?_
        have hLn : L + 1 ≤ 120 := le120 (n := 1) c_25 hL2 (by decide)
        refine xg_iconst (v := 1) (pc := 36) dX7_feed_36 (by decide) ?_
        refine xg_isub (pc := 37) dX7_feed_37 ?_
        refine xg_eq (show (1 : Int32) - 1 = 0 by decide) ?_
        refine xg_istore_n (pc := 38) (ls' := [some (.ref 62), some (.int x), some (.int 1), some (.int 0)]) dX7_feed_38 (by decide) rfl ?_
        refine xg_iload_n (pc := 39) dX7_feed_39 rfl ?_
        refine xg_if_lt (pc := 40) (tgt := 78) dX7_feed_40 (by decide) (fun c_40 => absurd c_40 (by decide)) (fun c_40 => ?_)
        refine xg_aload_n (pc := 43) dX7_feed_43 rfl ?_
        refine xg_get (pc := 44) dX7_feed_44 flX7_29 hp_62 rfl ?_
        refine xg_aload_n (pc := 47) dX7_feed_47 rfl ?_
        refine xg_get (pc := 48) dX7_feed_48 flX7_169 hp_62 rfl ?_
        refine xg_eq hL ?_
        refine xg_iload_n (pc := 51) dX7_feed_51 rfl ?_
        refine xg_bipush (v := 8) (pc := 52) dX7_feed_52 (by decide) ?_
        refine xg_iload_n (pc := 54) dX7_feed_54 rfl ?_
        refine xg_imul (pc := 55) dX7_feed_55 ?_
        refine xg_ishr (pc := 56) dX7_feed_56 ?_
        refine xg_sipush (v := 255) (pc := 57) dX7_feed_57 (by decide) ?_
        refine xg_iand (pc := 60) dX7_feed_60 ?_
        refine xg_iast (pc := 61) (h' := hp lk o mf wf (q.1, q.2.1, q.2.2.1, q.2.2.2.1, q.2.2.2.2.1, upd q.2.2.2.2.2.1 L ((x >>> ((8 * 0) &&& 31)) &&& 255), q.2.2.2.2.2.2.1, q.2.2.2.2.2.2.2.1, q.2.2.2.2.2.2.2.2.1, q.2.2.2.2.2.2.2.2.2.1, q.2.2.2.2.2.2.2.2.2.2.1, q.2.2.2.2.2.2.2.2.2.2.2.1, q.2.2.2.2.2.2.2.2.2.2.2.2.1, q.2.2.2.2.2.2.2.2.2.2.2.2.2.1, q.2.2.2.2.2.2.2.2.2.2.2.2.2.2)) L dX7_feed_61 hp_69 rfl (by omega) (by decide) hs_tp ?_
        refine xg_aload_n (pc := 62) dX7_feed_62 rfl ?_
        refine xg_dup (pc := 63) dX7_feed_63 rfl ?_
        refine xg_get (pc := 64) dX7_feed_64 flX7_169 hp_62 rfl ?_
        refine xg_eq hL ?_
        refine xg_iconst (v := 1) (pc := 67) dX7_feed_67 (by decide) ?_
        refine xg_iadd (pc := 68) dX7_feed_68 ?_
        refine xg_eq (nI_1 _) ?_
        refine xg_puti (pc := 69) (h' := hp lk o mf wf (q.1, q.2.1, q.2.2.1, q.2.2.2.1, q.2.2.2.2.1, upd q.2.2.2.2.2.1 L ((x >>> ((8 * 0) &&& 31)) &&& 255), nI (L + 1), q.2.2.2.2.2.2.2.1, q.2.2.2.2.2.2.2.2.1, q.2.2.2.2.2.2.2.2.2.1, q.2.2.2.2.2.2.2.2.2.2.1, q.2.2.2.2.2.2.2.2.2.2.2.1, q.2.2.2.2.2.2.2.2.2.2.2.2.1, q.2.2.2.2.2.2.2.2.2.2.2.2.2.1, q.2.2.2.2.2.2.2.2.2.2.2.2.2.2)) dX7_feed_69 flX7_169 hp_62 (Nat.le_of_ble_eq_true rfl) hs_td ?_
        refine xg_iinc (pc := 72) (y := -1) (ls' := [some (.ref 62), some (.int x), some (.int 1), some (.int (-1))]) dX7_feed_72 rfl (by decide) (by decide) rfl ?_
        refine xg_goto (pc := 75) (tgt := 39) dX7_feed_75 (by decide) ?_
        refine xg_iload_n (pc := 39) dX7_feed_39 rfl ?_
        refine xg_if_lt (pc := 40) (tgt := 78) dX7_feed_40 (by decide) (fun c_40 => ?_) (fun c_40 => absurd c_40 (by decide))
        refine xg_aload_n (pc := 78) dX7_feed_78 rfl ?_
        refine xg_get (pc := 79) dX7_feed_79 flX7_169 hp_62 rfl ?_
        refine xg_eq rfl ?_
        exact xg_iret (pc := 82) dX7_feed_82 rfl (rpR (by unfold r_feed; rw [hL, if_pos c_7, if_pos c_25, eL, ix_1, show (nI L + 1 : Int32) = nI (L + 1) from nI_add L 1]; rfl) eq65.rf)
      ·
        refine xg_iload_n (pc := 35) dX7_feed_35 rfl ?_
        have hLn : L + 2 ≤ 120 := le120 (n := 2) c_25 hL2 (by decide)
        refine xg_iconst (v := 1) (pc := 36) dX7_feed_36 (by decide) ?_
        refine xg_isub (pc := 37) dX7_feed_37 ?_
        refine xg_eq (show (2 : Int32) - 1 = 1 by decide) ?_
        refine xg_istore_n (pc := 38) (ls' := [some (.ref 62), some (.int x), some (.int 2), some (.int 1)]) dX7_feed_38 (by decide) rfl ?_
        refine xg_iload_n (pc := 39) dX7_feed_39 rfl ?_
        refine xg_if_lt (pc := 40) (tgt := 78) dX7_feed_40 (by decide) (fun c_40 => absurd c_40 (by decide)) (fun c_40 => ?_)
        refine xg_aload_n (pc := 43) dX7_feed_43 rfl ?_
        refine xg_get (pc := 44) dX7_feed_44 flX7_29 hp_62 rfl ?_
        refine xg_aload_n (pc := 47) dX7_feed_47 rfl ?_
        refine xg_get (pc := 48) dX7_feed_48 flX7_169 hp_62 rfl ?_
        refine xg_eq hL ?_
        refine xg_iload_n (pc := 51) dX7_feed_51 rfl ?_
        refine xg_bipush (v := 8) (pc := 52) dX7_feed_52 (by decide) ?_
        refine xg_iload_n (pc := 54) dX7_feed_54 rfl ?_
        refine xg_imul (pc := 55) dX7_feed_55 ?_
        refine xg_ishr (pc := 56) dX7_feed_56 ?_
        refine xg_sipush (v := 255) (pc := 57) dX7_feed_57 (by decide) ?_
        refine xg_iand (pc := 60) dX7_feed_60 ?_
        refine xg_iast (pc := 61) (h' := hp lk o mf wf (q.1, q.2.1, q.2.2.1, q.2.2.2.1, q.2.2.2.2.1, upd q.2.2.2.2.2.1 L ((x >>> ((8 * 1) &&& 31)) &&& 255), q.2.2.2.2.2.2.1, q.2.2.2.2.2.2.2.1, q.2.2.2.2.2.2.2.2.1, q.2.2.2.2.2.2.2.2.2.1, q.2.2.2.2.2.2.2.2.2.2.1, q.2.2.2.2.2.2.2.2.2.2.2.1, q.2.2.2.2.2.2.2.2.2.2.2.2.1, q.2.2.2.2.2.2.2.2.2.2.2.2.2.1, q.2.2.2.2.2.2.2.2.2.2.2.2.2.2)) L dX7_feed_61 hp_69 rfl (by omega) (by decide) hs_tp ?_
        refine xg_aload_n (pc := 62) dX7_feed_62 rfl ?_
        refine xg_dup (pc := 63) dX7_feed_63 rfl ?_
        refine xg_get (pc := 64) dX7_feed_64 flX7_169 hp_62 rfl ?_
        refine xg_eq hL ?_
        refine xg_iconst (v := 1) (pc := 67) dX7_feed_67 (by decide) ?_
        refine xg_iadd (pc := 68) dX7_feed_68 ?_
        refine xg_eq (nI_1 _) ?_
        refine xg_puti (pc := 69) (h' := hp lk o mf wf (q.1, q.2.1, q.2.2.1, q.2.2.2.1, q.2.2.2.2.1, upd q.2.2.2.2.2.1 L ((x >>> ((8 * 1) &&& 31)) &&& 255), nI (L + 1), q.2.2.2.2.2.2.2.1, q.2.2.2.2.2.2.2.2.1, q.2.2.2.2.2.2.2.2.2.1, q.2.2.2.2.2.2.2.2.2.2.1, q.2.2.2.2.2.2.2.2.2.2.2.1, q.2.2.2.2.2.2.2.2.2.2.2.2.1, q.2.2.2.2.2.2.2.2.2.2.2.2.2.1, q.2.2.2.2.2.2.2.2.2.2.2.2.2.2)) dX7_feed_69 flX7_169 hp_62 (Nat.le_of_ble_eq_true rfl) hs_td ?_
        refine xg_iinc (pc := 72) (y := 0) (ls' := [some (.ref 62), some (.int x), some (.int 2), some (.int 0)]) dX7_feed_72 rfl (by decide) (by decide) rfl ?_
        refine xg_goto (pc := 75) (tgt := 39) dX7_feed_75 (by decide) ?_
        refine xg_iload_n (pc := 39) dX7_feed_39 rfl ?_
        refine xg_if_lt (pc := 40) (tgt := 78) dX7_feed_40 (by decide) (fun c_40 => absurd c_40 (by decide)) (fun c_40 => ?_)
        refine xg_aload_n (pc := 43) dX7_feed_43 rfl ?_
        refine xg_get (pc := 44) dX7_feed_44 flX7_29 hp_62 rfl ?_
        refine xg_aload_n (pc := 47) dX7_feed_47 rfl ?_
        refine xg_get (pc := 48) dX7_feed_48 flX7_169 hp_62 rfl ?_
        refine xg_eq rfl ?_
        refine xg_iload_n (pc := 51) dX7_feed_51 rfl ?_
        refine xg_bipush (v := 8) (pc := 52) dX7_feed_52 (by decide) ?_
        refine xg_iload_n (pc := 54) dX7_feed_54 rfl ?_
        refine xg_imul (pc := 55) dX7_feed_55 ?_
        refine xg_ishr (pc := 56) dX7_feed_56 ?_
        refine xg_sipush (v := 255) (pc := 57) dX7_feed_57 (by decide) ?_
        refine xg_iand (pc := 60) dX7_feed_60 ?_
        refine xg_iast (pc := 61) (h' := hp lk o mf wf (q.1, q.2.1, q.2.2.1, q.2.2.2.1, q.2.2.2.2.1, upd (upd q.2.2.2.2.2.1 L ((x >>> ((8 * 1) &&& 31)) &&& 255)) (L + 1) ((x >>> ((8 * 0) &&& 31)) &&& 255), nI (L + 1), q.2.2.2.2.2.2.2.1, q.2.2.2.2.2.2.2.2.1, q.2.2.2.2.2.2.2.2.2.1, q.2.2.2.2.2.2.2.2.2.2.1, q.2.2.2.2.2.2.2.2.2.2.2.1, q.2.2.2.2.2.2.2.2.2.2.2.2.1, q.2.2.2.2.2.2.2.2.2.2.2.2.2.1, q.2.2.2.2.2.2.2.2.2.2.2.2.2.2)) (L + 1) dX7_feed_61 hp_69 rfl (by omega) (by decide) hs_tp ?_
        refine xg_aload_n (pc := 62) dX7_feed_62 rfl ?_
        refine xg_dup (pc := 63) dX7_feed_63 rfl ?_
        refine xg_get (pc := 64) dX7_feed_64 flX7_169 hp_62 rfl ?_
        refine xg_eq rfl ?_
        refine xg_iconst (v := 1) (pc := 67) dX7_feed_67 (by decide) ?_
        refine xg_iadd (pc := 68) dX7_feed_68 ?_
        refine xg_eq (nI_1 _) ?_
        refine xg_puti (pc := 69) (h' := hp lk o mf wf (q.1, q.2.1, q.2.2.1, q.2.2.2.1, q.2.2.2.2.1, upd (upd q.2.2.2.2.2.1 L ((x >>> ((8 * 1) &&& 31)) &&& 255)) (L + 1) ((x >>> ((8 * 0) &&& 31)) &&& 255), nI (L + 1 + 1), q.2.2.2.2.2.2.2.1, q.2.2.2.2.2.2.2.2.1, q.2.2.2.2.2.2.2.2.2.1, q.2.2.2.2.2.2.2.2.2.2.1, q.2.2.2.2.2.2.2.2.2.2.2.1, q.2.2.2.2.2.2.2.2.2.2.2.2.1, q.2.2.2.2.2.2.2.2.2.2.2.2.2.1, q.2.2.2.2.2.2.2.2.2.2.2.2.2.2)) dX7_feed_69 flX7_169 hp_62 (Nat.le_of_ble_eq_true rfl) hs_td ?_
        refine xg_iinc (pc := 72) (y := -1) (ls' := [some (.ref 62), some (.int x), some (.int 2), some (.int (-1))]) dX7_feed_72 rfl (by decide) (by decide) rfl ?_
        refine xg_goto (pc := 75) (tgt := 39) dX7_feed_75 (by decide) ?_
        refine xg_iload_n (pc := 39) dX7_feed_39 rfl ?_
        refine xg_if_lt (pc := 40) (tgt := 78) dX7_feed_40 (by decide) (fun c_40 => ?_) (fun c_40 => absurd c_40 (by decide))
        refine xg_aload_n (pc := 78) dX7_feed_78 rfl ?_
        refine xg_get (pc := 79) dX7_feed_79 flX7_169 hp_62 rfl ?_
        refine xg_eq rfl ?_
        exact xg_iret (pc := 82) dX7_feed_82 rfl (rpR (by unfold r_feed; rw [hL, if_pos c_7, if_pos c_25, eL, ix_2, show (nI L + 2 : Int32) = nI (L + 2) from nI_add L 2]; rfl) eq65.rf)
      ·
        refine xg_iload_n (pc := 35) dX7_feed_35 rfl ?_
        have hLn : L + 3 ≤ 120 := le120 (n := 3) c_25 hL2 (by decide)
        refine xg_iconst (v := 1) (pc := 36) dX7_feed_36 (by decide) ?_
        refine xg_isub (pc := 37) dX7_feed_37 ?_
        refine xg_eq (show (3 : Int32) - 1 = 2 by decide) ?_
        refine xg_istore_n (pc := 38) (ls' := [some (.ref 62), some (.int x), some (.int 3), some (.int 2)]) dX7_feed_38 (by decide) rfl ?_
        refine xg_iload_n (pc := 39) dX7_feed_39 rfl ?_
        refine xg_if_lt (pc := 40) (tgt := 78) dX7_feed_40 (by decide) (fun c_40 => absurd c_40 (by decide)) (fun c_40 => ?_)
        refine xg_aload_n (pc := 43) dX7_feed_43 rfl ?_
        refine xg_get (pc := 44) dX7_feed_44 flX7_29 hp_62 rfl ?_
        refine xg_aload_n (pc := 47) dX7_feed_47 rfl ?_
        refine xg_get (pc := 48) dX7_feed_48 flX7_169 hp_62 rfl ?_
        refine xg_eq hL ?_
        refine xg_iload_n (pc := 51) dX7_feed_51 rfl ?_
        refine xg_bipush (v := 8) (pc := 52) dX7_feed_52 (by decide) ?_
        refine xg_iload_n (pc := 54) dX7_feed_54 rfl ?_
        refine xg_imul (pc := 55) dX7_feed_55 ?_
        refine xg_ishr (pc := 56) dX7_feed_56 ?_
        refine xg_sipush (v := 255) (pc := 57) dX7_feed_57 (by decide) ?_
        refine xg_iand (pc := 60) dX7_feed_60 ?_
        refine xg_iast (pc := 61) (h' := hp lk o mf wf (q.1, q.2.1, q.2.2.1, q.2.2.2.1, q.2.2.2.2.1, upd q.2.2.2.2.2.1 L ((x >>> ((8 * 2) &&& 31)) &&& 255), q.2.2.2.2.2.2.1, q.2.2.2.2.2.2.2.1, q.2.2.2.2.2.2.2.2.1, q.2.2.2.2.2.2.2.2.2.1, q.2.2.2.2.2.2.2.2.2.2.1, q.2.2.2.2.2.2.2.2.2.2.2.1, q.2.2.2.2.2.2.2.2.2.2.2.2.1, q.2.2.2.2.2.2.2.2.2.2.2.2.2.1, q.2.2.2.2.2.2.2.2.2.2.2.2.2.2)) L dX7_feed_61 hp_69 rfl (by omega) (by decide) hs_tp ?_
        refine xg_aload_n (pc := 62) dX7_feed_62 rfl ?_
        refine xg_dup (pc := 63) dX7_feed_63 rfl ?_
        refine xg_get (pc := 64) dX7_feed_64 flX7_169 hp_62 rfl ?_
        refine xg_eq hL ?_
        refine xg_iconst (v := 1) (pc := 67) dX7_feed_67 (by decide) ?_
        refine xg_iadd (pc := 68) dX7_feed_68 ?_
        refine xg_eq (nI_1 _) ?_
        refine xg_puti (pc := 69) (h' := hp lk o mf wf (q.1, q.2.1, q.2.2.1, q.2.2.2.1, q.2.2.2.2.1, upd q.2.2.2.2.2.1 L ((x >>> ((8 * 2) &&& 31)) &&& 255), nI (L + 1), q.2.2.2.2.2.2.2.1, q.2.2.2.2.2.2.2.2.1, q.2.2.2.2.2.2.2.2.2.1, q.2.2.2.2.2.2.2.2.2.2.1, q.2.2.2.2.2.2.2.2.2.2.2.1, q.2.2.2.2.2.2.2.2.2.2.2.2.1, q.2.2.2.2.2.2.2.2.2.2.2.2.2.1, q.2.2.2.2.2.2.2.2.2.2.2.2.2.2)) dX7_feed_69 flX7_169 hp_62 (Nat.le_of_ble_eq_true rfl) hs_td ?_
        refine xg_iinc (pc := 72) (y := 1) (ls' := [some (.ref 62), some (.int x), some (.int 3), some (.int 1)]) dX7_feed_72 rfl (by decide) (by decide) rfl ?_
        refine xg_goto (pc := 75) (tgt := 39) dX7_feed_75 (by decide) ?_
        refine xg_iload_n (pc := 39) dX7_feed_39 rfl ?_
        refine xg_if_lt (pc := 40) (tgt := 78) dX7_feed_40 (by decide) (fun c_40 => absurd c_40 (by decide)) (fun c_40 => ?_)
        refine xg_aload_n (pc := 43) dX7_feed_43 rfl ?_
        refine xg_get (pc := 44) dX7_feed_44 flX7_29 hp_62 rfl ?_
        refine xg_aload_n (pc := 47) dX7_feed_47 rfl ?_
        refine xg_get (pc := 48) dX7_feed_48 flX7_169 hp_62 rfl ?_
        refine xg_eq rfl ?_
        refine xg_iload_n (pc := 51) dX7_feed_51 rfl ?_
        refine xg_bipush (v := 8) (pc := 52) dX7_feed_52 (by decide) ?_
        refine xg_iload_n (pc := 54) dX7_feed_54 rfl ?_
        refine xg_imul (pc := 55) dX7_feed_55 ?_
        refine xg_ishr (pc := 56) dX7_feed_56 ?_
        refine xg_sipush (v := 255) (pc := 57) dX7_feed_57 (by decide) ?_
        refine xg_iand (pc := 60) dX7_feed_60 ?_
        refine xg_iast (pc := 61) (h' := hp lk o mf wf (q.1, q.2.1, q.2.2.1, q.2.2.2.1, q.2.2.2.2.1, upd (upd q.2.2.2.2.2.1 L ((x >>> ((8 * 2) &&& 31)) &&& 255)) (L + 1) ((x >>> ((8 * 1) &&& 31)) &&& 255), nI (L + 1), q.2.2.2.2.2.2.2.1, q.2.2.2.2.2.2.2.2.1, q.2.2.2.2.2.2.2.2.2.1, q.2.2.2.2.2.2.2.2.2.2.1, q.2.2.2.2.2.2.2.2.2.2.2.1, q.2.2.2.2.2.2.2.2.2.2.2.2.1, q.2.2.2.2.2.2.2.2.2.2.2.2.2.1, q.2.2.2.2.2.2.2.2.2.2.2.2.2.2)) (L + 1) dX7_feed_61 hp_69 rfl (by omega) (by decide) hs_tp ?_
        refine xg_aload_n (pc := 62) dX7_feed_62 rfl ?_
        refine xg_dup (pc := 63) dX7_feed_63 rfl ?_
        refine xg_get (pc := 64) dX7_feed_64 flX7_169 hp_62 rfl ?_
        refine xg_eq rfl ?_
        refine xg_iconst (v := 1) (pc := 67) dX7_feed_67 (by decide) ?_
        refine xg_iadd (pc := 68) dX7_feed_68 ?_
        refine xg_eq (nI_1 _) ?_
        refine xg_puti (pc := 69) (h' := hp lk o mf wf (q.1, q.2.1, q.2.2.1, q.2.2.2.1, q.2.2.2.2.1, upd (upd q.2.2.2.2.2.1 L ((x >>> ((8 * 2) &&& 31)) &&& 255)) (L + 1) ((x >>> ((8 * 1) &&& 31)) &&& 255), nI (L + 1 + 1), q.2.2.2.2.2.2.2.1, q.2.2.2.2.2.2.2.2.1, q.2.2.2.2.2.2.2.2.2.1, q.2.2.2.2.2.2.2.2.2.2.1, q.2.2.2.2.2.2.2.2.2.2.2.1, q.2.2.2.2.2.2.2.2.2.2.2.2.1, q.2.2.2.2.2.2.2.2.2.2.2.2.2.1, q.2.2.2.2.2.2.2.2.2.2.2.2.2.2)) dX7_feed_69 flX7_169 hp_62 (Nat.le_of_ble_eq_true rfl) hs_td ?_
        refine xg_iinc (pc := 72) (y := 0) (ls' := [some (.ref 62), some (.int x), some (.int 3), some (.int 0)]) dX7_feed_72 rfl (by decide) (by decide) rfl ?_
        refine xg_goto (pc := 75) (tgt := 39) dX7_feed_75 (by decide) ?_
        refine xg_iload_n (pc := 39) dX7_feed_39 rfl ?_
        refine xg_if_lt (pc := 40) (tgt := 78) dX7_feed_40 (by decide) (fun c_40 => absurd c_40 (by decide)) (fun c_40 => ?_)
        refine xg_aload_n (pc := 43) dX7_feed_43 rfl ?_
        refine xg_get (pc := 44) dX7_feed_44 flX7_29 hp_62 rfl ?_
        refine xg_aload_n (pc := 47) dX7_feed_47 rfl ?_
        refine xg_get (pc := 48) dX7_feed_48 flX7_169 hp_62 rfl ?_
        refine xg_eq rfl ?_
        refine xg_iload_n (pc := 51) dX7_feed_51 rfl ?_
        refine xg_bipush (v := 8) (pc := 52) dX7_feed_52 (by decide) ?_
        refine xg_iload_n (pc := 54) dX7_feed_54 rfl ?_
        refine xg_imul (pc := 55) dX7_feed_55 ?_
        refine xg_ishr (pc := 56) dX7_feed_56 ?_
        refine xg_sipush (v := 255) (pc := 57) dX7_feed_57 (by decide) ?_
        refine xg_iand (pc := 60) dX7_feed_60 ?_
        refine xg_iast (pc := 61) (h' := hp lk o mf wf (q.1, q.2.1, q.2.2.1, q.2.2.2.1, q.2.2.2.2.1, upd (upd (upd q.2.2.2.2.2.1 L ((x >>> ((8 * 2) &&& 31)) &&& 255)) (L + 1) ((x >>> ((8 * 1) &&& 31)) &&& 255)) (L + 1 + 1) ((x >>> ((8 * 0) &&& 31)) &&& 255), nI (L + 1 + 1), q.2.2.2.2.2.2.2.1, q.2.2.2.2.2.2.2.2.1, q.2.2.2.2.2.2.2.2.2.1, q.2.2.2.2.2.2.2.2.2.2.1, q.2.2.2.2.2.2.2.2.2.2.2.1, q.2.2.2.2.2.2.2.2.2.2.2.2.1, q.2.2.2.2.2.2.2.2.2.2.2.2.2.1, q.2.2.2.2.2.2.2.2.2.2.2.2.2.2)) (L + 1 + 1) dX7_feed_61 hp_69 rfl (by omega) (by decide) hs_tp ?_
        refine xg_aload_n (pc := 62) dX7_feed_62 rfl ?_
        refine xg_dup (pc := 63) dX7_feed_63 rfl ?_
        refine xg_get (pc := 64) dX7_feed_64 flX7_169 hp_62 rfl ?_
        refine xg_eq rfl ?_
        refine xg_iconst (v := 1) (pc := 67) dX7_feed_67 (by decide) ?_
        refine xg_iadd (pc := 68) dX7_feed_68 ?_
        refine xg_eq (nI_1 _) ?_
        refine xg_puti (pc := 69) (h' := hp lk o mf wf (q.1, q.2.1, q.2.2.1, q.2.2.2.1, q.2.2.2.2.1, upd (upd (upd q.2.2.2.2.2.1 L ((x >>> ((8 * 2) &&& 31)) &&& 255)) (L + 1) ((x >>> ((8 * 1) &&& 31)) &&& 255)) (L + 1 + 1) ((x >>> ((8 * 0) &&& 31)) &&& 255), nI (L + 1 + 1 + 1), q.2.2.2.2.2.2.2.1, q.2.2.2.2.2.2.2.2.1, q.2.2.2.2.2.2.2.2.2.1, q.2.2.2.2.2.2.2.2.2.2.1, q.2.2.2.2.2.2.2.2.2.2.2.1, q.2.2.2.2.2.2.2.2.2.2.2.2.1, q.2.2.2.2.2.2.2.2.2.2.2.2.2.1, q.2.2.2.2.2.2.2.2.2.2.2.2.2.2)) dX7_feed_69 flX7_169 hp_62 (Nat.le_of_ble_eq_true rfl) hs_td ?_
        refine xg_iinc (pc := 72) (y := -1) (ls' := [some (.ref 62), some (.int x), some (.int 3), some (.int (-1))]) dX7_feed_72 rfl (by decide) (by decide) rfl ?_
        refine xg_goto (pc := 75) (tgt := 39) dX7_feed_75 (by decide) ?_
        refine xg_iload_n (pc := 39) dX7_feed_39 rfl ?_
        refine xg_if_lt (pc := 40) (tgt := 78) dX7_feed_40 (by decide) (fun c_40 => ?_) (fun c_40 => absurd c_40 (by decide))
        refine xg_aload_n (pc := 78) dX7_feed_78 rfl ?_
        refine xg_get (pc := 79) dX7_feed_79 flX7_169 hp_62 rfl ?_
        refine xg_eq rfl ?_
        exact xg_iret (pc := 82) dX7_feed_82 rfl (rpR (by unfold r_feed; rw [hL, if_pos c_7, if_pos c_25, eL, ix_3, show (nI L + 3 : Int32) = nI (L + 3) from nI_add L 3]; rfl) eq65.rf)
      ·
        refine xg_iload_n (pc := 35) dX7_feed_35 rfl ?_
        have hLn : L + 4 ≤ 120 := le120 (n := 4) c_25 hL2 (by decide)
        refine xg_iconst (v := 1) (pc := 36) dX7_feed_36 (by decide) ?_
        refine xg_isub (pc := 37) dX7_feed_37 ?_
        refine xg_eq (show (4 : Int32) - 1 = 3 by decide) ?_
        refine xg_istore_n (pc := 38) (ls' := [some (.ref 62), some (.int x), some (.int 4), some (.int 3)]) dX7_feed_38 (by decide) rfl ?_
        refine xg_iload_n (pc := 39) dX7_feed_39 rfl ?_
        refine xg_if_lt (pc := 40) (tgt := 78) dX7_feed_40 (by decide) (fun c_40 => absurd c_40 (by decide)) (fun c_40 => ?_)
        refine xg_aload_n (pc := 43) dX7_feed_43 rfl ?_
        refine xg_get (pc := 44) dX7_feed_44 flX7_29 hp_62 rfl ?_
        refine xg_aload_n (pc := 47) dX7_feed_47 rfl ?_
        refine xg_get (pc := 48) dX7_feed_48 flX7_169 hp_62 rfl ?_
        refine xg_eq hL ?_
        refine xg_iload_n (pc := 51) dX7_feed_51 rfl ?_
        refine xg_bipush (v := 8) (pc := 52) dX7_feed_52 (by decide) ?_
        refine xg_iload_n (pc := 54) dX7_feed_54 rfl ?_
        refine xg_imul (pc := 55) dX7_feed_55 ?_
        refine xg_ishr (pc := 56) dX7_feed_56 ?_
        refine xg_sipush (v := 255) (pc := 57) dX7_feed_57 (by decide) ?_
        refine xg_iand (pc := 60) dX7_feed_60 ?_
        refine xg_iast (pc := 61) (h' := hp lk o mf wf (q.1, q.2.1, q.2.2.1, q.2.2.2.1, q.2.2.2.2.1, upd q.2.2.2.2.2.1 L ((x >>> ((8 * 3) &&& 31)) &&& 255), q.2.2.2.2.2.2.1, q.2.2.2.2.2.2.2.1, q.2.2.2.2.2.2.2.2.1, q.2.2.2.2.2.2.2.2.2.1, q.2.2.2.2.2.2.2.2.2.2.1, q.2.2.2.2.2.2.2.2.2.2.2.1, q.2.2.2.2.2.2.2.2.2.2.2.2.1, q.2.2.2.2.2.2.2.2.2.2.2.2.2.1, q.2.2.2.2.2.2.2.2.2.2.2.2.2.2)) L dX7_feed_61 hp_69 rfl (by omega) (by decide) hs_tp ?_
        refine xg_aload_n (pc := 62) dX7_feed_62 rfl ?_
        refine xg_dup (pc := 63) dX7_feed_63 rfl ?_
        refine xg_get (pc := 64) dX7_feed_64 flX7_169 hp_62 rfl ?_
        refine xg_eq hL ?_
        refine xg_iconst (v := 1) (pc := 67) dX7_feed_67 (by decide) ?_
        refine xg_iadd (pc := 68) dX7_feed_68 ?_
        refine xg_eq (nI_1 _) ?_
        refine xg_puti (pc := 69) (h' := hp lk o mf wf (q.1, q.2.1, q.2.2.1, q.2.2.2.1, q.2.2.2.2.1, upd q.2.2.2.2.2.1 L ((x >>> ((8 * 3) &&& 31)) &&& 255), nI (L + 1), q.2.2.2.2.2.2.2.1, q.2.2.2.2.2.2.2.2.1, q.2.2.2.2.2.2.2.2.2.1, q.2.2.2.2.2.2.2.2.2.2.1, q.2.2.2.2.2.2.2.2.2.2.2.1, q.2.2.2.2.2.2.2.2.2.2.2.2.1, q.2.2.2.2.2.2.2.2.2.2.2.2.2.1, q.2.2.2.2.2.2.2.2.2.2.2.2.2.2)) dX7_feed_69 flX7_169 hp_62 (Nat.le_of_ble_eq_true rfl) hs_td ?_
        refine xg_iinc (pc := 72) (y := 2) (ls' := [some (.ref 62), some (.int x), some (.int 4), some (.int 2)]) dX7_feed_72 rfl (by decide) (by decide) rfl ?_
        refine xg_goto (pc := 75) (tgt := 39) dX7_feed_75 (by decide) ?_
        refine xg_iload_n (pc := 39) dX7_feed_39 rfl ?_
        refine xg_if_lt (pc := 40) (tgt := 78) dX7_feed_40 (by decide) (fun c_40 => absurd c_40 (by decide)) (fun c_40 => ?_)
        refine xg_aload_n (pc := 43) dX7_feed_43 rfl ?_
        refine xg_get (pc := 44) dX7_feed_44 flX7_29 hp_62 rfl ?_
        refine xg_aload_n (pc := 47) dX7_feed_47 rfl ?_
        refine xg_get (pc := 48) dX7_feed_48 flX7_169 hp_62 rfl ?_
        refine xg_eq rfl ?_
        refine xg_iload_n (pc := 51) dX7_feed_51 rfl ?_
        refine xg_bipush (v := 8) (pc := 52) dX7_feed_52 (by decide) ?_
        refine xg_iload_n (pc := 54) dX7_feed_54 rfl ?_
        refine xg_imul (pc := 55) dX7_feed_55 ?_
        refine xg_ishr (pc := 56) dX7_feed_56 ?_
        refine xg_sipush (v := 255) (pc := 57) dX7_feed_57 (by decide) ?_
        refine xg_iand (pc := 60) dX7_feed_60 ?_
        refine xg_iast (pc := 61) (h' := hp lk o mf wf (q.1, q.2.1, q.2.2.1, q.2.2.2.1, q.2.2.2.2.1, upd (upd q.2.2.2.2.2.1 L ((x >>> ((8 * 3) &&& 31)) &&& 255)) (L + 1) ((x >>> ((8 * 2) &&& 31)) &&& 255), nI (L + 1), q.2.2.2.2.2.2.2.1, q.2.2.2.2.2.2.2.2.1, q.2.2.2.2.2.2.2.2.2.1, q.2.2.2.2.2.2.2.2.2.2.1, q.2.2.2.2.2.2.2.2.2.2.2.1, q.2.2.2.2.2.2.2.2.2.2.2.2.1, q.2.2.2.2.2.2.2.2.2.2.2.2.2.1, q.2.2.2.2.2.2.2.2.2.2.2.2.2.2)) (L + 1) dX7_feed_61 hp_69 rfl (by omega) (by decide) hs_tp ?_
        refine xg_aload_n (pc := 62) dX7_feed_62 rfl ?_
        refine xg_dup (pc := 63) dX7_feed_63 rfl ?_
        refine xg_get (pc := 64) dX7_feed_64 flX7_169 hp_62 rfl ?_
        refine xg_eq rfl ?_
        refine xg_iconst (v := 1) (pc := 67) dX7_feed_67 (by decide) ?_
        refine xg_iadd (pc := 68) dX7_feed_68 ?_
        refine xg_eq (nI_1 _) ?_
        refine xg_puti (pc := 69) (h' := hp lk o mf wf (q.1, q.2.1, q.2.2.1, q.2.2.2.1, q.2.2.2.2.1, upd (upd q.2.2.2.2.2.1 L ((x >>> ((8 * 3) &&& 31)) &&& 255)) (L + 1) ((x >>> ((8 * 2) &&& 31)) &&& 255), nI (L + 1 + 1), q.2.2.2.2.2.2.2.1, q.2.2.2.2.2.2.2.2.1, q.2.2.2.2.2.2.2.2.2.1, q.2.2.2.2.2.2.2.2.2.2.1, q.2.2.2.2.2.2.2.2.2.2.2.1, q.2.2.2.2.2.2.2.2.2.2.2.2.1, q.2.2.2.2.2.2.2.2.2.2.2.2.2.1, q.2.2.2.2.2.2.2.2.2.2.2.2.2.2)) dX7_feed_69 flX7_169 hp_62 (Nat.le_of_ble_eq_true rfl) hs_td ?_
        refine xg_iinc (pc := 72) (y := 1) (ls' := [some (.ref 62), some (.int x), some (.int 4), some (.int 1)]) dX7_feed_72 rfl (by decide) (by decide) rfl ?_
        refine xg_goto (pc := 75) (tgt := 39) dX7_feed_75 (by decide) ?_
        refine xg_iload_n (pc := 39) dX7_feed_39 rfl ?_
        refine xg_if_lt (pc := 40) (tgt := 78) dX7_feed_40 (by decide) (fun c_40 => absurd c_40 (by decide)) (fun c_40 => ?_)
        refine xg_aload_n (pc := 43) dX7_feed_43 rfl ?_
        refine xg_get (pc := 44) dX7_feed_44 flX7_29 hp_62 rfl ?_
        refine xg_aload_n (pc := 47) dX7_feed_47 rfl ?_
        refine xg_get (pc := 48) dX7_feed_48 flX7_169 hp_62 rfl ?_
        refine xg_eq rfl ?_
        refine xg_iload_n (pc := 51) dX7_feed_51 rfl ?_
        refine xg_bipush (v := 8) (pc := 52) dX7_feed_52 (by decide) ?_
        refine xg_iload_n (pc := 54) dX7_feed_54 rfl ?_
        refine xg_imul (pc := 55) dX7_feed_55 ?_
        refine xg_ishr (pc := 56) dX7_feed_56 ?_
        refine xg_sipush (v := 255) (pc := 57) dX7_feed_57 (by decide) ?_
        refine xg_iand (pc := 60) dX7_feed_60 ?_
        refine xg_iast (pc := 61) (h' := hp lk o mf wf (q.1, q.2.1, q.2.2.1, q.2.2.2.1, q.2.2.2.2.1, upd (upd (upd q.2.2.2.2.2.1 L ((x >>> ((8 * 3) &&& 31)) &&& 255)) (L + 1) ((x >>> ((8 * 2) &&& 31)) &&& 255)) (L + 1 + 1) ((x >>> ((8 * 1) &&& 31)) &&& 255), nI (L + 1 + 1), q.2.2.2.2.2.2.2.1, q.2.2.2.2.2.2.2.2.1, q.2.2.2.2.2.2.2.2.2.1, q.2.2.2.2.2.2.2.2.2.2.1, q.2.2.2.2.2.2.2.2.2.2.2.1, q.2.2.2.2.2.2.2.2.2.2.2.2.1, q.2.2.2.2.2.2.2.2.2.2.2.2.2.1, q.2.2.2.2.2.2.2.2.2.2.2.2.2.2)) (L + 1 + 1) dX7_feed_61 hp_69 rfl (by omega) (by decide) hs_tp ?_
        refine xg_aload_n (pc := 62) dX7_feed_62 rfl ?_
        refine xg_dup (pc := 63) dX7_feed_63 rfl ?_
        refine xg_get (pc := 64) dX7_feed_64 flX7_169 hp_62 rfl ?_
        refine xg_eq rfl ?_
        refine xg_iconst (v := 1) (pc := 67) dX7_feed_67 (by decide) ?_
        refine xg_iadd (pc := 68) dX7_feed_68 ?_
        refine xg_eq (nI_1 _) ?_
        refine xg_puti (pc := 69) (h' := hp lk o mf wf (q.1, q.2.1, q.2.2.1, q.2.2.2.1, q.2.2.2.2.1, upd (upd (upd q.2.2.2.2.2.1 L ((x >>> ((8 * 3) &&& 31)) &&& 255)) (L + 1) ((x >>> ((8 * 2) &&& 31)) &&& 255)) (L + 1 + 1) ((x >>> ((8 * 1) &&& 31)) &&& 255), nI (L + 1 + 1 + 1), q.2.2.2.2.2.2.2.1, q.2.2.2.2.2.2.2.2.1, q.2.2.2.2.2.2.2.2.2.1, q.2.2.2.2.2.2.2.2.2.2.1, q.2.2.2.2.2.2.2.2.2.2.2.1, q.2.2.2.2.2.2.2.2.2.2.2.2.1, q.2.2.2.2.2.2.2.2.2.2.2.2.2.1, q.2.2.2.2.2.2.2.2.2.2.2.2.2.2)) dX7_feed_69 flX7_169 hp_62 (Nat.le_of_ble_eq_true rfl) hs_td ?_
        refine xg_iinc (pc := 72) (y := 0) (ls' := [some (.ref 62), some (.int x), some (.int 4), some (.int 0)]) dX7_feed_72 rfl (by decide) (by decide) rfl ?_
        refine xg_goto (pc := 75) (tgt := 39) dX7_feed_75 (by decide) ?_
        refine xg_iload_n (pc := 39) dX7_feed_39 rfl ?_
        refine xg_if_lt (pc := 40) (tgt := 78) dX7_feed_40 (by decide) (fun c_40 => absurd c_40 (by decide)) (fun c_40 => ?_)
        refine xg_aload_n (pc := 43) dX7_feed_43 rfl ?_
        refine xg_get (pc := 44) dX7_feed_44 flX7_29 hp_62 rfl ?_
        refine xg_aload_n (pc := 47) dX7_feed_47 rfl ?_
        refine xg_get (pc := 48) dX7_feed_48 flX7_169 hp_62 rfl ?_
        refine xg_eq rfl ?_
        refine xg_iload_n (pc := 51) dX7_feed_51 rfl ?_
        refine xg_bipush (v := 8) (pc := 52) dX7_feed_52 (by decide) ?_
        refine xg_iload_n (pc := 54) dX7_feed_54 rfl ?_
        refine xg_imul (pc := 55) dX7_feed_55 ?_
        refine xg_ishr (pc := 56) dX7_feed_56 ?_
        refine xg_sipush (v := 255) (pc := 57) dX7_feed_57 (by decide) ?_
        refine xg_iand (pc := 60) dX7_feed_60 ?_
        refine xg_iast (pc := 61) (h' := hp lk o mf wf (q.1, q.2.1, q.2.2.1, q.2.2.2.1, q.2.2.2.2.1, upd (upd (upd (upd q.2.2.2.2.2.1 L ((x >>> ((8 * 3) &&& 31)) &&& 255)) (L + 1) ((x >>> ((8 * 2) &&& 31)) &&& 255)) (L + 1 + 1) ((x >>> ((8 * 1) &&& 31)) &&& 255)) (L + 1 + 1 + 1) ((x >>> ((8 * 0) &&& 31)) &&& 255), nI (L + 1 + 1 + 1), q.2.2.2.2.2.2.2.1, q.2.2.2.2.2.2.2.2.1, q.2.2.2.2.2.2.2.2.2.1, q.2.2.2.2.2.2.2.2.2.2.1, q.2.2.2.2.2.2.2.2.2.2.2.1, q.2.2.2.2.2.2.2.2.2.2.2.2.1, q.2.2.2.2.2.2.2.2.2.2.2.2.2.1, q.2.2.2.2.2.2.2.2.2.2.2.2.2.2)) (L + 1 + 1 + 1) dX7_feed_61 hp_69 rfl (by omega) (by decide) hs_tp ?_
        refine xg_aload_n (pc := 62) dX7_feed_62 rfl ?_
        refine xg_dup (pc := 63) dX7_feed_63 rfl ?_
        refine xg_get (pc := 64) dX7_feed_64 flX7_169 hp_62 rfl ?_
        refine xg_eq rfl ?_
        refine xg_iconst (v := 1) (pc := 67) dX7_feed_67 (by decide) ?_
        refine xg_iadd (pc := 68) dX7_feed_68 ?_
        refine xg_eq (nI_1 _) ?_
        refine xg_puti (pc := 69) (h' := hp lk o mf wf (q.1, q.2.1, q.2.2.1, q.2.2.2.1, q.2.2.2.2.1, upd (upd (upd (upd q.2.2.2.2.2.1 L ((x >>> ((8 * 3) &&& 31)) &&& 255)) (L + 1) ((x >>> ((8 * 2) &&& 31)) &&& 255)) (L + 1 + 1) ((x >>> ((8 * 1) &&& 31)) &&& 255)) (L + 1 + 1 + 1) ((x >>> ((8 * 0) &&& 31)) &&& 255), nI (L + 1 + 1 + 1 + 1), q.2.2.2.2.2.2.2.1, q.2.2.2.2.2.2.2.2.1, q.2.2.2.2.2.2.2.2.2.1, q.2.2.2.2.2.2.2.2.2.2.1, q.2.2.2.2.2.2.2.2.2.2.2.1, q.2.2.2.2.2.2.2.2.2.2.2.2.1, q.2.2.2.2.2.2.2.2.2.2.2.2.2.1, q.2.2.2.2.2.2.2.2.2.2.2.2.2.2)) dX7_feed_69 flX7_169 hp_62 (Nat.le_of_ble_eq_true rfl) hs_td ?_
        refine xg_iinc (pc := 72) (y := -1) (ls' := [some (.ref 62), some (.int x), some (.int 4), some (.int (-1))]) dX7_feed_72 rfl (by decide) (by decide) rfl ?_
        refine xg_goto (pc := 75) (tgt := 39) dX7_feed_75 (by decide) ?_
        refine xg_iload_n (pc := 39) dX7_feed_39 rfl ?_
        refine xg_if_lt (pc := 40) (tgt := 78) dX7_feed_40 (by decide) (fun c_40 => ?_) (fun c_40 => absurd c_40 (by decide))
        refine xg_aload_n (pc := 78) dX7_feed_78 rfl ?_
        refine xg_get (pc := 79) dX7_feed_79 flX7_169 hp_62 rfl ?_
        refine xg_eq rfl ?_
        exact xg_iret (pc := 82) dX7_feed_82 rfl (rpR (by unfold r_feed; rw [hL, if_pos c_7, if_pos c_25, eL, ix_4, show (nI L + 4 : Int32) = nI (L + 4) from nI_add L 4]; rfl) eq65.rf)
    ·
      refine xg_aload_n (pc := 28) dX7_feed_28 rfl ?_
      refine xg_ldc (v := -1000000002) (pc := 29) dX7_feed_29 ccX7_101 ?_
      refine xg_cvI (pc := 31) (h1 := hp lk o mf wf (q.1, q.2.1, upd q.2.2.1 1 (q.2.2.1 1 + 1), q.2.2.2.1, q.2.2.2.2.1, q.2.2.2.2.2.1, q.2.2.2.2.2.2.1, q.2.2.2.2.2.2.2.1, q.2.2.2.2.2.2.2.2.1, q.2.2.2.2.2.2.2.2.2.1, q.2.2.2.2.2.2.2.2.2.2.1, q.2.2.2.2.2.2.2.2.2.2.2.1, q.2.2.2.2.2.2.2.2.2.2.2.2.1, q.2.2.2.2.2.2.2.2.2.2.2.2.2.1, q.2.2.2.2.2.2.2.2.2.2.2.2.2.2)) (x := -1000000002) (M' := mX7_finds) dX7_feed_31 lkX7_44 mcX7_finds hp_62 rfl (ev_X7_finds (j := 1) (by decide) (by decide)) rfl rfl (Nat.le_of_ble_eq_true rfl) ?_
      exact xg_iret (pc := 34) dX7_feed_34 rfl (rpR (by exact (if_pos c_7).trans (if_neg (by rw [hL]; exact c_25))) eq65.rf)
  ·
    refine xg_aload_n (pc := 10) dX7_feed_10 rfl ?_
    refine xg_ldc (v := -1000000001) (pc := 11) dX7_feed_11 ccX7_42 ?_
    refine xg_cvI (pc := 13) (h1 := hp lk o mf wf (q.1, q.2.1, upd q.2.2.1 0 (q.2.2.1 0 + 1), q.2.2.2.1, q.2.2.2.2.1, q.2.2.2.2.2.1, q.2.2.2.2.2.2.1, q.2.2.2.2.2.2.2.1, q.2.2.2.2.2.2.2.2.1, q.2.2.2.2.2.2.2.2.2.1, q.2.2.2.2.2.2.2.2.2.2.1, q.2.2.2.2.2.2.2.2.2.2.2.1, q.2.2.2.2.2.2.2.2.2.2.2.2.1, q.2.2.2.2.2.2.2.2.2.2.2.2.2.1, q.2.2.2.2.2.2.2.2.2.2.2.2.2.2)) (x := -1000000001) (M' := mX7_finds) dX7_feed_13 lkX7_44 mcX7_finds hp_62 rfl (ev_X7_finds (j := 0) (by decide) (by decide)) rfl rfl (Nat.le_of_ble_eq_true rfl) ?_
    exact xg_iret (pc := 16) dX7_feed_16 rfl (rpR (by exact if_neg c_7) eq65.rf)
set_option maxRecDepth 100000 in
set_option maxHeartbeats 4000000 in
theorem ev_X7_wipe   : xEv X false (d + 0) 0 0 mX7_wipe [.ref 62] (hp lk o mf wf q) (RP lk o ((.int q.2.2.2.2.2.2.1, qT q 0 q.2.2.2.2.2.1, mf))) := by
  refine xEv.of (ls := [some (.ref 62), none]) mcX7_wipe.1.2.2.2.2 (Nat.le_of_ble_eq_true rfl) rfl ?_
  refine xg_aload_n (pc := 0) dX7_wipe_0 rfl ?_
  refine xg_get (pc := 1) dX7_wipe_1 flX7_169 hp_62 rfl ?_
  refine xg_istore_n (pc := 4) (ls' := [some (.ref 62), some (.int q.2.2.2.2.2.2.1)]) dX7_wipe_4 (by decide) rfl ?_
  refine xg_aload_n (pc := 5) dX7_wipe_5 rfl ?_
  refine xg_iconst (v := 0) (pc := 6) dX7_wipe_6 (by decide) ?_
  refine xg_puti (pc := 7) (h' := hp lk o mf wf (q.1, q.2.1, q.2.2.1, q.2.2.2.1, q.2.2.2.2.1, q.2.2.2.2.2.1, 0, q.2.2.2.2.2.2.2.1, q.2.2.2.2.2.2.2.2.1, q.2.2.2.2.2.2.2.2.2.1, q.2.2.2.2.2.2.2.2.2.2.1, q.2.2.2.2.2.2.2.2.2.2.2.1, q.2.2.2.2.2.2.2.2.2.2.2.2.1, q.2.2.2.2.2.2.2.2.2.2.2.2.2.1, q.2.2.2.2.2.2.2.2.2.2.2.2.2.2)) dX7_wipe_7 flX7_169 hp_62 (Nat.le_of_ble_eq_true rfl) hs_td ?_
  refine xg_iload_n (pc := 10) dX7_wipe_10 rfl ?_
  exact xg_iret (pc := 11) dX7_wipe_11 rfl (rpR (by rfl) eq65.rf)
set_option maxRecDepth 100000 in
set_option maxHeartbeats 4000000 in
theorem ev_X7_image   : xEv X false (d + 1) 0 0 mX7_image [.ref 62] (hp lk o mf wf q) (RP lk o (r_image q mf)) := by
  refine xEv.of (ls := [some (.ref 62)]) mcX7_image.1.2.2.2.2 (Nat.le_of_ble_eq_true rfl) rfl ?_
  refine xg_aload_n (pc := 0) dX7_image_0 rfl ?_
  refine xg_get (pc := 1) dX7_image_1 flX7_9 hp_62 rfl ?_
  refine xg_aload_n (pc := 4) dX7_image_4 rfl ?_
  refine xg_get (pc := 5) dX7_image_5 flX7_13 hp_62 rfl ?_
  refine xg_csV (pc := 8) (h1 := hp lk o mf wf (cpF 65 mf q.1, q.2.1, q.2.2.1, q.2.2.2.1, q.2.2.2.2.1, q.2.2.2.2.2.1, q.2.2.2.2.2.2.1, q.2.2.2.2.2.2.2.1, q.2.2.2.2.2.2.2.2.1, q.2.2.2.2.2.2.2.2.2.1, q.2.2.2.2.2.2.2.2.2.2.1, q.2.2.2.2.2.2.2.2.2.2.2.1, q.2.2.2.2.2.2.2.2.2.2.2.2.1, q.2.2.2.2.2.2.2.2.2.2.2.2.2.1, q.2.2.2.2.2.2.2.2.2.2.2.2.2.2)) (M' := mX7_copyAll) dX7_image_8 lkX7_143 mcX7_copyAll (ev_copy_mk) rfl rfl (Nat.le_of_ble_eq_true rfl) ?_
  refine xg_aload_n (pc := 11) dX7_image_11 rfl ?_
  refine xg_iconst (v := 1) (pc := 12) dX7_image_12 (by decide) ?_
  refine xg_put (pc := 13) (h' := hp lk o mf wf (cpF 65 mf q.1, 1, q.2.2.1, q.2.2.2.1, q.2.2.2.2.1, q.2.2.2.2.2.1, q.2.2.2.2.2.2.1, q.2.2.2.2.2.2.2.1, q.2.2.2.2.2.2.2.2.1, q.2.2.2.2.2.2.2.2.2.1, q.2.2.2.2.2.2.2.2.2.2.1, q.2.2.2.2.2.2.2.2.2.2.2.1, q.2.2.2.2.2.2.2.2.2.2.2.2.1, q.2.2.2.2.2.2.2.2.2.2.2.2.2.1, q.2.2.2.2.2.2.2.2.2.2.2.2.2.2)) dX7_image_13 flX7_248 (Or.inl rfl) hp_62 (fun _ => ⟨rfl, rfl⟩) (Nat.le_of_ble_eq_true rfl) hs_ik ?_
  refine xg_iconst (v := 1) (pc := 16) dX7_image_16 (by decide) ?_
  exact xg_iret (pc := 17) dX7_image_17 rfl (rpR (by rfl) eq65.rf)
set_option maxRecDepth 100000 in
set_option maxHeartbeats 4000000 in
theorem ev_X7_undo   : xEv X false (d + 1) 0 0 mX7_undo [.ref 62] (hp lk o mf wf q) (RP lk o (r_undo q mf)) := by
  refine xEv.of (ls := [some (.ref 62)]) mcX7_undo.1.2.2.2.2 (Nat.le_of_ble_eq_true rfl) rfl ?_
  refine xg_aload_n (pc := 0) dX7_undo_0 rfl ?_
  refine xg_get (pc := 1) dX7_undo_1 flX7_248 hp_62 rfl ?_
  refine xg_if_ne (pc := 4) (tgt := 14) dX7_undo_4 (by decide) (fun c_4 => ?_) (fun c_4 => ?_)
  ·
    refine xg_aload_n (pc := 14) dX7_undo_14 rfl ?_
    refine xg_get (pc := 15) dX7_undo_15 flX7_13 hp_62 rfl ?_
    refine xg_aload_n (pc := 18) dX7_undo_18 rfl ?_
    refine xg_get (pc := 19) dX7_undo_19 flX7_9 hp_62 rfl ?_
    refine xg_csV (pc := 22) (h1 := hp lk o (cpF 65 q.1 mf) wf q) (M' := mX7_copyAll) dX7_undo_22 lkX7_143 mcX7_copyAll (ev_copy_km) rfl rfl (Nat.le_of_ble_eq_true rfl) ?_
    refine xg_aload_n (pc := 25) dX7_undo_25 rfl ?_
    refine xg_get (pc := 26) dX7_undo_26 flX7_9 hp_62 rfl ?_
    refine xg_iconst (v := 3) (pc := 29) dX7_undo_29 (by decide) ?_
    refine xg_iald (pc := 30) 3 dX7_undo_30 hp_63 rfl (by omega) (by decide) ?_
    exact xg_iret (pc := 31) dX7_undo_31 rfl (rpR (by exact if_neg c_4) eq65_th)
  ·
    refine xg_aload_n (pc := 7) dX7_undo_7 rfl ?_
    refine xg_ldc (v := -1000000004) (pc := 8) dX7_undo_8 ccX7_43 ?_
    refine xg_cvI (pc := 10) (h1 := hp lk o mf wf (q.1, q.2.1, upd q.2.2.1 3 (q.2.2.1 3 + 1), q.2.2.2.1, q.2.2.2.2.1, q.2.2.2.2.2.1, q.2.2.2.2.2.2.1, q.2.2.2.2.2.2.2.1, q.2.2.2.2.2.2.2.2.1, q.2.2.2.2.2.2.2.2.2.1, q.2.2.2.2.2.2.2.2.2.2.1, q.2.2.2.2.2.2.2.2.2.2.2.1, q.2.2.2.2.2.2.2.2.2.2.2.2.1, q.2.2.2.2.2.2.2.2.2.2.2.2.2.1, q.2.2.2.2.2.2.2.2.2.2.2.2.2.2)) (x := -1000000004) (M' := mX7_finds) dX7_undo_10 lkX7_44 mcX7_finds hp_62 rfl (ev_X7_finds (j := 3) (by decide) (by decide)) rfl rfl (Nat.le_of_ble_eq_true rfl) ?_
    exact xg_iret (pc := 13) dX7_undo_13 rfl (rpR (by exact if_pos c_4) eq65.rf)
set_option maxRecDepth 100000 in
set_option maxHeartbeats 4000000 in
theorem ev_X7_tear   : xEv X false (d + 0) 0 0 mX7_tear [.ref 62] (hp lk o mf wf q) (RP lk o (r_tear q mf)) := by
  refine xEv.of (ls := [some (.ref 62), none]) mcX7_tear.1.2.2.2.2 (Nat.le_of_ble_eq_true rfl) rfl ?_
  refine xg_aload_n (pc := 0) dX7_tear_0 rfl ?_
  refine xg_get (pc := 1) dX7_tear_1 flX7_248 hp_62 rfl ?_
  refine xg_if_eq (pc := 4) (tgt := 11) dX7_tear_4 (by decide) (fun c_4 => ?_) (fun c_4 => ?_)
  ·
    refine xg_iconst (v := 0) (pc := 11) dX7_tear_11 (by decide) ?_
    refine xg_istore_n (pc := 12) (ls' := [some (.ref 62), some (.int 0)]) dX7_tear_12 (by decide) rfl ?_
    refine xg_aload_n (pc := 13) dX7_tear_13 rfl ?_
    refine xg_iconst (v := 0) (pc := 14) dX7_tear_14 (by decide) ?_
    refine xg_put (pc := 15) (h' := hp lk o mf wf (q.1, 0, q.2.2.1, q.2.2.2.1, q.2.2.2.2.1, q.2.2.2.2.2.1, q.2.2.2.2.2.2.1, q.2.2.2.2.2.2.2.1, q.2.2.2.2.2.2.2.2.1, q.2.2.2.2.2.2.2.2.2.1, q.2.2.2.2.2.2.2.2.2.2.1, q.2.2.2.2.2.2.2.2.2.2.2.1, q.2.2.2.2.2.2.2.2.2.2.2.2.1, q.2.2.2.2.2.2.2.2.2.2.2.2.2.1, q.2.2.2.2.2.2.2.2.2.2.2.2.2.2)) dX7_tear_15 flX7_248 (Or.inl rfl) hp_62 (fun _ => ⟨rfl, rfl⟩) (Nat.le_of_ble_eq_true rfl) hs_ik ?_
    refine xg_iload_n (pc := 18) dX7_tear_18 rfl ?_
    exact xg_iret (pc := 19) dX7_tear_19 rfl (rpR (by unfold r_tear; first | rw [if_pos c_4] | rw [if_neg c_4]) eq65.rf)
  ·
    refine xg_iconst (v := 1) (pc := 7) dX7_tear_7 (by decide) ?_
    refine xg_goto (pc := 8) (tgt := 12) dX7_tear_8 (by decide) ?_
    refine xg_istore_n (pc := 12) (ls' := [some (.ref 62), some (.int 1)]) dX7_tear_12 (by decide) rfl ?_
    refine xg_aload_n (pc := 13) dX7_tear_13 rfl ?_
    refine xg_iconst (v := 0) (pc := 14) dX7_tear_14 (by decide) ?_
    refine xg_put (pc := 15) (h' := hp lk o mf wf (q.1, 0, q.2.2.1, q.2.2.2.1, q.2.2.2.2.1, q.2.2.2.2.2.1, q.2.2.2.2.2.2.1, q.2.2.2.2.2.2.2.1, q.2.2.2.2.2.2.2.2.1, q.2.2.2.2.2.2.2.2.2.1, q.2.2.2.2.2.2.2.2.2.2.1, q.2.2.2.2.2.2.2.2.2.2.2.1, q.2.2.2.2.2.2.2.2.2.2.2.2.1, q.2.2.2.2.2.2.2.2.2.2.2.2.2.1, q.2.2.2.2.2.2.2.2.2.2.2.2.2.2)) dX7_tear_15 flX7_248 (Or.inl rfl) hp_62 (fun _ => ⟨rfl, rfl⟩) (Nat.le_of_ble_eq_true rfl) hs_ik ?_
    refine xg_iload_n (pc := 18) dX7_tear_18 rfl ?_
    exact xg_iret (pc := 19) dX7_tear_19 rfl (rpR (by unfold r_tear; first | rw [if_pos c_4] | rw [if_neg c_4]) eq65.rf)
set_option maxRecDepth 100000 in
set_option maxHeartbeats 4000000 in
theorem ev_X7_count {w : Int32} (okp : okP mf) : xEv X false (d + 3) 0 0 mX7_count [.ref 62, .int w] (hp lk o mf wf q) (RP lk o (r_count q mf w)) := by
  have ok := okp.1.1
  refine xEv.of (ls := [some (.ref 62), some (.int w)]) mcX7_count.1.2.2.2.2 (Nat.le_of_ble_eq_true rfl) rfl ?_
  refine xg_iload_n (pc := 0) dX7_count_0 rfl ?_
  by_cases w1_0 : w = 0
  ·
    refine xg_tswI (pc := 1) 0 (tgt := 36) dX7_count_1 (by rw [w1_0]; rfl) (by decide) rfl (by decide) ?_
    refine xg_aload_n (pc := 36) dX7_count_36 rfl ?_
    refine xg_get (pc := 37) dX7_count_37 flX7_9 hp_62 rfl ?_
    refine xg_iconst (v := 3) (pc := 40) dX7_count_40 (by decide) ?_
    refine xg_iald (pc := 41) 3 dX7_count_41 hp_63 rfl (by omega) (by decide) ?_
    exact xg_iret (pc := 42) dX7_count_42 rfl (rpR (by unfold r_count p_count; rw [if_pos w1_0]) eq65.rf)
  by_cases w1_1 : w = 1
  ·
    refine xg_tswI (pc := 1) 1 (tgt := 43) dX7_count_1 (by rw [w1_1]; rfl) (by decide) rfl (by decide) ?_
    refine xg_aload_n (pc := 43) dX7_count_43 rfl ?_
    refine xg_get (pc := 44) dX7_count_44 flX7_169 hp_62 rfl ?_
    exact xg_iret (pc := 47) dX7_count_47 rfl (rpR (by unfold r_count p_count; rw [if_neg w1_0, if_pos w1_1]) eq65.rf)
  by_cases w1_2 : w = 2
  ·
    refine xg_tswI (pc := 1) 2 (tgt := 48) dX7_count_1 (by rw [w1_2]; rfl) (by decide) rfl (by decide) ?_
    refine xg_aload_n (pc := 48) dX7_count_48 rfl ?_
    refine xg_get (pc := 49) dX7_count_49 flX7_9 hp_62 rfl ?_
    refine xg_iconst (v := 4) (pc := 52) dX7_count_52 (by decide) ?_
    refine xg_iald (pc := 53) 4 dX7_count_53 hp_63 rfl (by omega) (by decide) ?_
    exact xg_iret (pc := 54) dX7_count_54 rfl (rpR (by unfold r_count p_count; rw [if_neg w1_0, if_neg w1_1, if_pos w1_2]) eq65.rf)
  by_cases w1_3 : w = 3
  ·
    refine xg_tswI (pc := 1) 3 (tgt := 55) dX7_count_1 (by rw [w1_3]; rfl) (by decide) rfl (by decide) ?_
    refine xg_aload_n (pc := 55) dX7_count_55 rfl ?_
    refine xg_iconst (v := 3) (pc := 56) dX7_count_56 (by decide) ?_
    refine xg_cvI (pc := 57) (h1 := hp lk o mf wf q) (x := sumI (sB mf 3) (nB mf)) (M' := mX7_sumOf) dX7_count_57 lkX7_140 mcX7_sumOf hp_62 rfl (ev_X7_sumOf ok (w := 3) (by decide)) rfl rfl (Nat.le_of_ble_eq_true rfl) ?_
    exact xg_iret (pc := 60) dX7_count_60 rfl (rpR (by unfold r_count p_count; rw [if_neg w1_0, if_neg w1_1, if_neg w1_2, if_pos w1_3]) eq65.rf)
  by_cases w1_4 : w = 4
  ·
    refine xg_tswI (pc := 1) 4 (tgt := 61) dX7_count_1 (by rw [w1_4]; rfl) (by decide) rfl (by decide) ?_
    refine xg_aload_n (pc := 61) dX7_count_61 rfl ?_
    refine xg_iconst (v := 2) (pc := 62) dX7_count_62 (by decide) ?_
    refine xg_cvI (pc := 63) (h1 := hp lk o mf wf q) (x := sumI (sB mf 2) (nB mf)) (M' := mX7_sumOf) dX7_count_63 lkX7_140 mcX7_sumOf hp_62 rfl (ev_X7_sumOf ok (w := 2) (by decide)) rfl rfl (Nat.le_of_ble_eq_true rfl) ?_
    exact xg_iret (pc := 66) dX7_count_66 rfl (rpR (by unfold r_count p_count; rw [if_neg w1_0, if_neg w1_1, if_neg w1_2, if_neg w1_3, if_pos w1_4]) eq65.rf)
  refine xg_tswO (pc := 1) (tgt := 67) dX7_count_1 (by have := lv_neT (a := 0) w1_0 (by decide); have := lv_neT (a := 1) w1_1 (by decide); have := lv_neT (a := 2) w1_2 (by decide); have := lv_neT (a := 3) w1_3 (by decide); have := lv_neT (a := 4) w1_4 (by decide); omega) (by decide) ?_
  refine xg_aload_n (pc := 67) dX7_count_67 rfl ?_
  refine xg_ldc (v := -1000000001) (pc := 68) dX7_count_68 ccX7_42 ?_
  refine xg_cvI (pc := 70) (h1 := hp lk o mf wf (q.1, q.2.1, upd q.2.2.1 0 (q.2.2.1 0 + 1), q.2.2.2.1, q.2.2.2.2.1, q.2.2.2.2.2.1, q.2.2.2.2.2.2.1, q.2.2.2.2.2.2.2.1, q.2.2.2.2.2.2.2.2.1, q.2.2.2.2.2.2.2.2.2.1, q.2.2.2.2.2.2.2.2.2.2.1, q.2.2.2.2.2.2.2.2.2.2.2.1, q.2.2.2.2.2.2.2.2.2.2.2.2.1, q.2.2.2.2.2.2.2.2.2.2.2.2.2.1, q.2.2.2.2.2.2.2.2.2.2.2.2.2.2)) (x := -1000000001) (M' := mX7_finds) dX7_count_70 lkX7_44 mcX7_finds hp_62 rfl (ev_X7_finds (j := 0) (by decide) (by decide)) rfl rfl (Nat.le_of_ble_eq_true rfl) ?_
  exact xg_iret (pc := 73) dX7_count_73 rfl (rpR (by unfold r_count p_count; rw [if_neg w1_0, if_neg w1_1, if_neg w1_2, if_neg w1_3, if_neg w1_4]; rfl) eq65.rf)
def stF (w : Int32) (g : Nat → Int32) (k : Nat) : Int32 := if w < 0 ∨ w = nI k then g k else 0
theorem stF_p {w : Int32} {g : Nat → Int32} (h : -1 ≤ w ∧ w ≤ 6) : p_stat g w = some (sumI (stF w g) 7) := by
  rcases n06 h with rfl | rfl | rfl | rfl | rfl | rfl | rfl | rfl <;> (simp [p_stat, stF, sumI, ix, nI]; try rfl)
set_option maxRecDepth 100000 in
theorem lp_X7_status {w : Int32}  : ∀ (k tq : Nat), tq + k = 7 → xGo X false (d + 1) 0 0 mX7_status 22 [some (.ref 62), some (.int w), some (.int (sumI (stF w q.2.2.1) tq)), some (.int (nI tq))] [] (hp lk o mf wf q) (fun v h' => v = [.int (sumI (stF w q.2.2.1) 7)] ∧ h' = hp lk o mf wf q) := by
  intro k
  induction k with
  | zero =>
    intro tq ht
    have etq : tq = 7 := by omega
    subst etq
    refine xg_iload_n (pc := 22) dX7_status_22 rfl ?_
    refine xg_bipush (v := 7) (pc := 23) dX7_status_23 (by decide) ?_
    refine xg_icmp_ge (pc := 25) (tgt := 56) dX7_status_25 (by decide) (fun c_25 => ?_) (fun c_25 => absurd c_25 (by decide))
    refine xg_iload_n (pc := 56) dX7_status_56 rfl ?_
    exact xg_iret (pc := 57) dX7_status_57 rfl (⟨by rfl, rfl⟩)
  | succ k ih =>
    intro tq ht
    refine xg_iload_n (pc := 22) dX7_status_22 rfl ?_
    refine xg_bipush (v := 7) (pc := 23) dX7_status_23 (by decide) ?_
    refine xg_icmp_ge (pc := 25) (tgt := 56) dX7_status_25 (by decide) (fun c_25 => absurd c_25 (nI_ge (b := 7) (by omega) (by omega))) (fun c_25 => ?_)
    refine xg_iload_n (pc := 28) dX7_status_28 rfl ?_
    refine xg_iload_n (pc := 29) dX7_status_29 rfl ?_
    refine xg_if_lt (pc := 30) (tgt := 38) dX7_status_30 (by decide) (fun c_30 => ?_) (fun c_30 => ?_)
    ·
      refine xg_aload_n (pc := 38) dX7_status_38 rfl ?_
      refine xg_get (pc := 39) dX7_status_39 flX7_19 hp_62 rfl ?_
      refine xg_iload_n (pc := 42) dX7_status_42 rfl ?_
      refine xg_iald (pc := 43) tq dX7_status_43 hp_66 rfl (by omega) (by decide) ?_
      refine xg_goto (pc := 44) (tgt := 48) dX7_status_44 (by decide) ?_
      refine xg_iadd (pc := 48) dX7_status_48 ?_
      refine xg_istore_n (pc := 49) (ls' := [some (.ref 62), some (.int w), some (.int ((sumI (stF w q.2.2.1) tq) + (q.2.2.1 tq))), some (.int (nI tq))]) dX7_status_49 (by decide) rfl ?_
      refine xg_iinc (pc := 50) (y := nI (tq + 1)) (ls' := [some (.ref 62), some (.int w), some (.int ((sumI (stF w q.2.2.1) tq) + (q.2.2.1 tq))), some (.int (nI (tq + 1)))]) dX7_status_50 rfl (xinc _) (by decide) rfl ?_
      refine xg_goto (pc := 53) (tgt := 22) dX7_status_53 (by decide) ?_
      rw [show ((sumI (stF w q.2.2.1) tq) + (q.2.2.1 tq) : Int32) = sumI (stF w q.2.2.1) (tq + 1) from by rw [sumI, stF]; first | rw [if_pos (Or.inl c_30)] | rw [if_pos (Or.inr c_35)] | rw [if_neg (fun q => q.elim c_30 c_35)]]
      exact ih (tq + 1) (by omega)
    ·
      refine xg_iload_n (pc := 33) dX7_status_33 rfl ?_
      refine xg_iload_n (pc := 34) dX7_status_34 rfl ?_
      refine xg_icmp_ne (pc := 35) (tgt := 47) dX7_status_35 (by decide) (fun c_35 => ?_) (fun c_35 => ?_)
      ·
        refine xg_iconst (v := 0) (pc := 47) dX7_status_47 (by decide) ?_
        refine xg_iadd (pc := 48) dX7_status_48 ?_
        refine xg_istore_n (pc := 49) (ls' := [some (.ref 62), some (.int w), some (.int ((sumI (stF w q.2.2.1) tq) + 0)), some (.int (nI tq))]) dX7_status_49 (by decide) rfl ?_
        refine xg_iinc (pc := 50) (y := nI (tq + 1)) (ls' := [some (.ref 62), some (.int w), some (.int ((sumI (stF w q.2.2.1) tq) + 0)), some (.int (nI (tq + 1)))]) dX7_status_50 rfl (xinc _) (by decide) rfl ?_
        refine xg_goto (pc := 53) (tgt := 22) dX7_status_53 (by decide) ?_
        rw [show ((sumI (stF w q.2.2.1) tq) + 0 : Int32) = sumI (stF w q.2.2.1) (tq + 1) from by rw [sumI, stF]; first | rw [if_pos (Or.inl c_30)] | rw [if_pos (Or.inr c_35)] | rw [if_neg (fun q => q.elim c_30 c_35)]]
        exact ih (tq + 1) (by omega)
      ·
        refine xg_aload_n (pc := 38) dX7_status_38 rfl ?_
        refine xg_get (pc := 39) dX7_status_39 flX7_19 hp_62 rfl ?_
        refine xg_iload_n (pc := 42) dX7_status_42 rfl ?_
        refine xg_iald (pc := 43) tq dX7_status_43 hp_66 rfl (by omega) (by decide) ?_
        refine xg_goto (pc := 44) (tgt := 48) dX7_status_44 (by decide) ?_
        refine xg_iadd (pc := 48) dX7_status_48 ?_
        refine xg_istore_n (pc := 49) (ls' := [some (.ref 62), some (.int w), some (.int ((sumI (stF w q.2.2.1) tq) + (q.2.2.1 tq))), some (.int (nI tq))]) dX7_status_49 (by decide) rfl ?_
        refine xg_iinc (pc := 50) (y := nI (tq + 1)) (ls' := [some (.ref 62), some (.int w), some (.int ((sumI (stF w q.2.2.1) tq) + (q.2.2.1 tq))), some (.int (nI (tq + 1)))]) dX7_status_50 rfl (xinc _) (by decide) rfl ?_
        refine xg_goto (pc := 53) (tgt := 22) dX7_status_53 (by decide) ?_
        rw [show ((sumI (stF w q.2.2.1) tq) + (q.2.2.1 tq) : Int32) = sumI (stF w q.2.2.1) (tq + 1) from by rw [sumI, stF]; first | rw [if_pos (Or.inl c_30)] | rw [if_pos (Or.inr c_35)] | rw [if_neg (fun q => q.elim c_30 c_35)]]
        exact ih (tq + 1) (by omega)
set_option maxRecDepth 100000 in
set_option maxHeartbeats 4000000 in
theorem ev_X7_status {w : Int32}  : xEv X false (d + 1) 0 0 mX7_status [.ref 62, .int w] (hp lk o mf wf q) (RP lk o (r_stat q mf w)) := by
  refine xEv.of (ls := [some (.ref 62), some (.int w), none, none]) mcX7_status.1.2.2.2.2 (Nat.le_of_ble_eq_true rfl) rfl ?_
  refine xg_iload_n (pc := 0) dX7_status_0 rfl ?_
  refine xg_i2l (pc := 1) dX7_status_1 ?_
  refine xg_iconst (v := -1) (pc := 2) dX7_status_2 (by decide) ?_
  refine xg_bipush (v := 6) (pc := 3) dX7_status_3 (by decide) ?_
  refine xg_csI (pc := 5) (h1 := hp lk o mf wf q) (x := if (-1) ≤ w ∧ w ≤ 6 then 1 else 0) (M' := mX7_in) dX7_status_5 lkX7_48 mcX7_in (ev_in) rfl rfl (Nat.le_of_ble_eq_true rfl) ?_
  refine xg_bnz (pc := 8) (tgt := 18) dX7_status_8 (by decide) (fun c_8 => ?_) (fun c_8 => ?_)
  ·
    refine xg_iconst (v := 0) (pc := 18) dX7_status_18 (by decide) ?_
    refine xg_istore_n (pc := 19) (ls' := [some (.ref 62), some (.int w), some (.int 0), none]) dX7_status_19 (by decide) rfl ?_
    refine xg_iconst (v := 0) (pc := 20) dX7_status_20 (by decide) ?_
    refine xg_istore_n (pc := 21) (ls' := [some (.ref 62), some (.int w), some (.int 0), some (.int 0)]) dX7_status_21 (by decide) rfl ?_
    refine xg_mono (fun v h' q => ?_) (lp_X7_status 7 0 rfl)
    rw [q.1, q.2]
    exact rpR (by unfold r_stat; rw [stF_p c_8]) eq65.rf
  ·
    refine xg_aload_n (pc := 11) dX7_status_11 rfl ?_
    refine xg_ldc (v := -1000000001) (pc := 12) dX7_status_12 ccX7_42 ?_
    refine xg_cvI (pc := 14) (h1 := hp lk o mf wf (q.1, q.2.1, upd q.2.2.1 0 (q.2.2.1 0 + 1), q.2.2.2.1, q.2.2.2.2.1, q.2.2.2.2.2.1, q.2.2.2.2.2.2.1, q.2.2.2.2.2.2.2.1, q.2.2.2.2.2.2.2.2.1, q.2.2.2.2.2.2.2.2.2.1, q.2.2.2.2.2.2.2.2.2.2.1, q.2.2.2.2.2.2.2.2.2.2.2.1, q.2.2.2.2.2.2.2.2.2.2.2.2.1, q.2.2.2.2.2.2.2.2.2.2.2.2.2.1, q.2.2.2.2.2.2.2.2.2.2.2.2.2.2)) (x := -1000000001) (M' := mX7_finds) dX7_status_14 lkX7_44 mcX7_finds hp_62 rfl (ev_X7_finds (j := 0) (by decide) (by decide)) rfl rfl (Nat.le_of_ble_eq_true rfl) ?_
    exact xg_iret (pc := 17) dX7_status_17 rfl (rpR (by unfold r_stat p_stat; rw [if_neg (fun z => c_8 ⟨Int32.le_trans (by decide) z.1, z.2⟩), if_neg (fun z => c_8 (by rw [z]; decide))]; rfl) eq65.rf)
end
