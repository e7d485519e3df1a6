section
variable {X : xS} {d : Nat} {o : xO} {mf wf : Nat → Int32} {q : xQ} {f0 f1 f2 : Nat → Int32} {lk : Nat → Nat → Int32} {L : Nat}
set_option maxRecDepth 100000 in
theorem lp_X4_readTo  (hL : o.2.2.1 = nI L) (hL2 : L ≤ 120) : ∀ (k tq : Nat), tq + k = 121 → ∀ (t : Tk), ∀ (f1 : Nat → Int32), okT o.2.2.2.1 L t → okP f1 → xGo X false (d + 8) 0 0 mX4_readTo 11 [some (.ref 51), some (.ref (1 + 16 * 1)), some (.int (nI tq))] [] (hp (tri f0 f1 f2) (oK o t) mf wf q) (fun v h' => v = [.int ((rdA o.2.2.2.1 L k tq t f1).1)] ∧ h' = hp (tri f0 ((rdA o.2.2.2.1 L k tq t f1).2.1) f2) (oK o ((rdA o.2.2.2.1 L k tq t f1).2.2)) mf wf q) := by
  intro k
  induction k with
  | zero =>
    intro tq ht t f1 okt okp
    have etq : tq = 121 := by omega
    subst etq
    refine xg_iload_n (pc := 11) dX4_readTo_11 rfl ?_
    refine xg_bipush (v := 120) (pc := 12) dX4_readTo_12 (by decide) ?_
    refine xg_icmp_gt (pc := 14) (tgt := 66) dX4_readTo_14 (by decide) (fun c_14 => ?_) (fun c_14 => absurd c_14 (by decide))
    refine xg_iconst (v := -1) (pc := 66) dX4_readTo_66 (by decide) ?_
    refine xg_aload_n (pc := 67) dX4_readTo_67 rfl ?_
    refine xg_get (pc := 68) dX4_readTo_68 flX4_26 hp_51 rfl ?_
    refine xg_eq (show _ = nI t.2.1 from rfl) ?_
    refine xg_isub (pc := 71) dX4_readTo_71 ?_
    exact xg_iret (pc := 72) dX4_readTo_72 rfl (⟨rfl, rfl⟩)
  | succ k ih =>
    intro tq ht t f1 okt okp
    have iq := itI_Q okp lvE.rf okt
    have iq5 := iq.2.2.2.2.1.2.2.2.1
    refine xg_iload_n (pc := 11) dX4_readTo_11 rfl ?_
    refine xg_bipush (v := 120) (pc := 12) dX4_readTo_12 (by decide) ?_
    refine xg_icmp_gt (pc := 14) (tgt := 66) dX4_readTo_14 (by decide) (fun c_14 => absurd c_14 (nI_nlt (a := 120) (by omega) (by omega))) (fun c_14 => ?_)
    refine xg_aload_n (pc := 17) dX4_readTo_17 rfl ?_
    refine xg_aload_n (pc := 18) dX4_readTo_18 rfl ?_
    refine xg_cvI (pc := 19) (h1 := hp (tri f0 ((itI o.2.2.2.1 L t f1).2.2) f2) (oK o ((itI o.2.2.2.1 L t f1).2.1)) mf wf q) (x := (itI o.2.2.2.1 L t f1).1) (M' := mX4_readItem) dX4_readTo_19 lkX4_22 mcX4_readItem hp_51 rfl (ev_X4_readItem hL hL2 okt okp.1.1) rfl rfl (Nat.le_of_ble_eq_true rfl) ?_
    refine xg_if_ne (pc := 22) (tgt := 32) dX4_readTo_22 (by decide) (fun c_22 => ?_) (fun c_22 => ?_)
    ·
      refine xg_aload_n (pc := 32) dX4_readTo_32 rfl ?_
      refine xg_get (pc := 33) dX4_readTo_33 flX4_29 hp_51 rfl ?_
      refine xg_eq (show _ = nI ((itI o.2.2.2.1 L t f1).2.1).1 from rfl) ?_
      refine xg_if_ne (pc := 36) (tgt := 41) dX4_readTo_36 (by decide) (fun c_36 => ?_) (fun c_36 => ?_)
      ·
        have e36 : ¬ ((itI o.2.2.2.1 L t f1).2.1).1 = 0 := fun z => c_36 (by rw [z]; rfl)
        refine xg_aload_n (pc := 41) dX4_readTo_41 rfl ?_
        refine xg_get (pc := 42) dX4_readTo_42 flX4_29 hp_51 rfl ?_
        refine xg_eq (show _ = nI ((itI o.2.2.2.1 L t f1).2.1).1 from rfl) ?_
        refine xg_iconst (v := 3) (pc := 45) dX4_readTo_45 (by decide) ?_
        refine xg_icmp_eq (pc := 46) (tgt := 56) dX4_readTo_46 (by decide) (fun c_46 => ?_) (fun c_46 => ?_)
        ·
          have e46 : ((itI o.2.2.2.1 L t f1).2.1).1 = 3 := (nI_eq (b := 3) (by omega) (by omega)).mp c_46
          refine xg_aload_n (pc := 56) dX4_readTo_56 rfl ?_
          refine xg_cvV (pc := 57) (h1 := hp (tri f0 ((itI o.2.2.2.1 L t f1).2.2) f2) (oK o (nx o.2.2.2.1 L ((itI o.2.2.2.1 L t f1).2.1))) mf wf q) (M' := mX4_nextToken) dX4_readTo_57 lkX4_19 mcX4_nextToken hp_51 rfl (ev_nx hL hL2 iq.2.2.2.2.1) rfl rfl (Nat.le_of_ble_eq_true rfl) ?_
          refine xg_iinc (pc := 60) (y := nI (tq + 1)) (ls' := [some (.ref 51), some (.ref (1 + 16 * 1)), some (.int (nI (tq + 1)))]) dX4_readTo_60 rfl (xinc _) (by decide) rfl ?_
          refine xg_goto (pc := 63) (tgt := 11) dX4_readTo_63 (by decide) ?_
          rw [show rdA o.2.2.2.1 L (k + 1) tq t f1 = rdA o.2.2.2.1 L k (tq + 1) (nx o.2.2.2.1 L (itI o.2.2.2.1 L t f1).2.1) (itI o.2.2.2.1 L t f1).2.2 from (if_neg c_22).trans ((if_neg e36).trans (if_pos e46))]
          exact ih (tq + 1) (by omega) _ _ (nx_ok iq.2.2.2.2.1).1 iq.2.2.2.1
        ·
          have e46 : ¬ ((itI o.2.2.2.1 L t f1).2.1).1 = 3 := fun z => c_46 (by rw [z]; rfl)
          refine xg_iconst (v := -1) (pc := 49) dX4_readTo_49 (by decide) ?_
          refine xg_aload_n (pc := 50) dX4_readTo_50 rfl ?_
          refine xg_get (pc := 51) dX4_readTo_51 flX4_26 hp_51 rfl ?_
          refine xg_eq (show _ = nI ((itI o.2.2.2.1 L t f1).2.1).2.1 from rfl) ?_
          refine xg_isub (pc := 54) dX4_readTo_54 ?_
          exact xg_iret (pc := 55) dX4_readTo_55 rfl (⟨by rw [show rdA o.2.2.2.1 L (k + 1) tq t f1 = _ from (if_neg c_22).trans ((if_neg e36).trans (if_neg e46))], by rw [show rdA o.2.2.2.1 L (k + 1) tq t f1 = _ from (if_neg c_22).trans ((if_neg e36).trans (if_neg e46))]⟩)
      ·
        have e36 : ((itI o.2.2.2.1 L t f1).2.1).1 = 0 := (nI_eq (b := 0) (by omega) (by omega)).mp c_36
        refine xg_iload_n (pc := 39) dX4_readTo_39 rfl ?_
        exact xg_iret (pc := 40) dX4_readTo_40 rfl (⟨by rw [show rdA o.2.2.2.1 L (k + 1) tq t f1 = _ from (if_neg c_22).trans (if_pos e36)], by rw [show rdA o.2.2.2.1 L (k + 1) tq t f1 = _ from (if_neg c_22).trans (if_pos e36)]⟩)
    ·
      refine xg_iconst (v := -1) (pc := 25) dX4_readTo_25 (by decide) ?_
      refine xg_aload_n (pc := 26) dX4_readTo_26 rfl ?_
      refine xg_get (pc := 27) dX4_readTo_27 flX4_26 hp_51 rfl ?_
      refine xg_eq (show _ = nI ((itI o.2.2.2.1 L t f1).2.1).2.1 from rfl) ?_
      refine xg_isub (pc := 30) dX4_readTo_30 ?_
      exact xg_iret (pc := 31) dX4_readTo_31 rfl (⟨by rw [show rdA o.2.2.2.1 L (k + 1) tq t f1 = _ from if_pos c_22], by rw [show rdA o.2.2.2.1 L (k + 1) tq t f1 = _ from if_pos c_22]⟩)
set_option maxRecDepth 100000 in
theorem ev_X4_readTo  (hL : o.2.2.1 = nI L) (hL2 : L ≤ 120) (okp : okP f1) : xDv X false (d + 8) mX4_readTo [.ref 51, .ref (1 + 16 * 1)] (hp (tri f0 f1 f2) o mf wf q) [.int ((rdA o.2.2.2.1 L 120 1 (tok o.2.2.2.1 L 0) f1).1)] (hp (tri f0 ((rdA o.2.2.2.1 L 120 1 (tok o.2.2.2.1 L 0) f1).2.1) f2) (oK o ((rdA o.2.2.2.1 L 120 1 (tok o.2.2.2.1 L 0) f1).2.2)) mf wf q) := by
  refine xDv.of (ls := [some (.ref 51), some (.ref (1 + 16 * 1)), none]) mcX4_readTo.1.2.2.2.2 (Nat.le_of_ble_eq_true rfl) rfl ?_
  refine xg_aload_n (pc := 0) dX4_readTo_0 rfl ?_
  refine xg_iconst (v := 0) (pc := 1) dX4_readTo_1 (by decide) ?_
  refine xg_puti (pc := 2) (h' := hp (tri f0 f1 f2) (o.1, o.2.1, o.2.2.1, o.2.2.2.1, o.2.2.2.2.1, o.2.2.2.2.2.1, 0, o.2.2.2.2.2.2.2.1, o.2.2.2.2.2.2.2.2.1, o.2.2.2.2.2.2.2.2.2.1, o.2.2.2.2.2.2.2.2.2.2) mf wf q) dX4_readTo_2 flX4_15 hp_51 (Nat.le_of_ble_eq_true rfl) hs_re ?_
  refine xg_aload_n (pc := 5) dX4_readTo_5 rfl ?_
  refine xg_cvV (pc := 6) (h1 := hp (tri f0 f1 f2) (oK o (tok o.2.2.2.1 L 0)) mf wf q) (M' := mX4_nextToken) dX4_readTo_6 lkX4_19 mcX4_nextToken hp_51 rfl (ev_X4_nextToken (a := 0) (o := (o.1, o.2.1, o.2.2.1, o.2.2.2.1, o.2.2.2.2.1, o.2.2.2.2.2.1, 0, o.2.2.2.2.2.2.2.1, o.2.2.2.2.2.2.2.2.1, o.2.2.2.2.2.2.2.2.2.1, o.2.2.2.2.2.2.2.2.2.2)) hL hL2 (by omega) rfl) rfl rfl (Nat.le_of_ble_eq_true rfl) ?_
  refine xg_iconst (v := 1) (pc := 9) dX4_readTo_9 (by decide) ?_
  refine xg_istore_n (pc := 10) (ls' := [some (.ref 51), some (.ref (1 + 16 * 1)), some (.int 1)]) dX4_readTo_10 (by decide) rfl ?_
  exact lp_X4_readTo hL hL2 120 1 rfl _ _ (tok_ok (Nat.zero_le _)).1 okp
set_option maxRecDepth 100000 in
set_option maxHeartbeats 4000000 in
theorem ev_X6_lake  (hL : o.2.2.1 = nI L) (hL2 : L ≤ 120) (okp : okP f0) : xEv X false (d + 9) 0 0 mX6_lake [.ref 0] (hp (tri f0 f1 f2) o mf wf q) (CP mf wf q (c_lake o L f0 f1 f2)) := by
  refine xEv.of (ls := [some (.ref 0), none]) mcX6_lake.1.2.2.2.2 (Nat.le_of_ble_eq_true rfl) rfl ?_
  refine xg_aload_n (pc := 0) dX6_lake_0 rfl ?_
  refine xg_get (pc := 1) dX6_lake_1 flX6_16 hp_0 rfl ?_
  refine xg_aload_n (pc := 4) dX6_lake_4 rfl ?_
  refine xg_get (pc := 5) dX6_lake_5 flX6_10 hp_0 rfl ?_
  refine xg_cvV (pc := 8) (h1 := hp (tri f0 (bcF f0 f1) f2) o mf wf q) (M' := mX1_become) dX6_lake_8 lkX6_188 mcX1_become (hp_lake1 ) rfl (ev_bec_10 okp.1.1) rfl rfl (Nat.le_of_ble_eq_true rfl) ?_
  refine xg_aload_n (pc := 11) dX6_lake_11 rfl ?_
  refine xg_get (pc := 12) dX6_lake_12 flX6_38 hp_0 rfl ?_
  refine xg_aload_n (pc := 15) dX6_lake_15 rfl ?_
  refine xg_get (pc := 16) dX6_lake_16 flX6_16 hp_0 rfl ?_
  refine xg_cvI (pc := 19) (h1 := hp (tri f0 ((rdA o.2.2.2.1 L 120 1 (tok o.2.2.2.1 L 0) (bcF f0 f1)).2.1) f2) (oK o ((rdA o.2.2.2.1 L 120 1 (tok o.2.2.2.1 L 0) (bcF f0 f1)).2.2)) mf wf q) (x := (rdA o.2.2.2.1 L 120 1 (tok o.2.2.2.1 L 0) (bcF f0 f1)).1) (M' := mX4_readTo) dX6_lake_19 lkX6_226 mcX4_readTo hp_51 rfl (ev_X4_readTo hL hL2 ((bcF_lv okp.h8).okP okp)) rfl rfl (Nat.le_of_ble_eq_true rfl) ?_
  refine xg_istore_n (pc := 22) (ls' := [some (.ref 0), some (.int ((rdA o.2.2.2.1 L 120 1 (tok o.2.2.2.1 L 0) (bcF f0 f1)).1))]) dX6_lake_22 (by decide) rfl ?_
  refine xg_iload_n (pc := 23) dX6_lake_23 rfl ?_
  refine xg_if_lt (pc := 24) (tgt := 38) dX6_lake_24 (by decide) (fun c_24 => ?_) (fun c_24 => ?_)
  ·
    refine xg_aload_n (pc := 38) dX6_lake_38 rfl ?_
    refine xg_get (pc := 39) dX6_lake_39 flX6_29 hp_0 rfl ?_
    refine xg_iconst (v := 0) (pc := 42) dX6_lake_42 (by decide) ?_
    refine xg_puti (pc := 43) (h' := hp (tri f0 ((rdA o.2.2.2.1 L 120 1 (tok o.2.2.2.1 L 0) (bcF f0 f1)).2.1) f2) ((oK o ((rdA o.2.2.2.1 L 120 1 (tok o.2.2.2.1 L 0) (bcF f0 f1)).2.2)).1, (oK o ((rdA o.2.2.2.1 L 120 1 (tok o.2.2.2.1 L 0) (bcF f0 f1)).2.2)).2.1, 0, (oK o ((rdA o.2.2.2.1 L 120 1 (tok o.2.2.2.1 L 0) (bcF f0 f1)).2.2)).2.2.2.1, (oK o ((rdA o.2.2.2.1 L 120 1 (tok o.2.2.2.1 L 0) (bcF f0 f1)).2.2)).2.2.2.2.1, (oK o ((rdA o.2.2.2.1 L 120 1 (tok o.2.2.2.1 L 0) (bcF f0 f1)).2.2)).2.2.2.2.2.1, (oK o ((rdA o.2.2.2.1 L 120 1 (tok o.2.2.2.1 L 0) (bcF f0 f1)).2.2)).2.2.2.2.2.2.1, (oK o ((rdA o.2.2.2.1 L 120 1 (tok o.2.2.2.1 L 0) (bcF f0 f1)).2.2)).2.2.2.2.2.2.2.1, (oK o ((rdA o.2.2.2.1 L 120 1 (tok o.2.2.2.1 L 0) (bcF f0 f1)).2.2)).2.2.2.2.2.2.2.2.1, (oK o ((rdA o.2.2.2.1 L 120 1 (tok o.2.2.2.1 L 0) (bcF f0 f1)).2.2)).2.2.2.2.2.2.2.2.2.1, (oK o ((rdA o.2.2.2.1 L 120 1 (tok o.2.2.2.1 L 0) (bcF f0 f1)).2.2)).2.2.2.2.2.2.2.2.2.2) mf wf q) dX6_lake_43 flX6_220 hp_49 (Nat.le_of_ble_eq_true rfl) hs_tl ?_
    refine xg_iload_n (pc := 46) dX6_lake_46 rfl ?_
    exact xg_iret (pc := 47) dX6_lake_47 rfl (cpR (by unfold c_lake; rw [if_pos c_24]; rfl))
  ·
    refine xg_aload_n (pc := 27) dX6_lake_27 rfl ?_
    refine xg_get (pc := 28) dX6_lake_28 flX6_10 hp_0 rfl ?_
    refine xg_aload_n (pc := 31) dX6_lake_31 rfl ?_
    refine xg_get (pc := 32) dX6_lake_32 flX6_16 hp_0 rfl ?_
    refine xg_cvV (pc := 35) (h1 := hp (tri (bcF ((rdA o.2.2.2.1 L 120 1 (tok o.2.2.2.1 L 0) (bcF f0 f1)).2.1) f0) ((rdA o.2.2.2.1 L 120 1 (tok o.2.2.2.1 L 0) (bcF f0 f1)).2.1) f2) (oK o ((rdA o.2.2.2.1 L 120 1 (tok o.2.2.2.1 L 0) (bcF f0 f1)).2.2)) mf wf q) (M' := mX1_become) dX6_lake_35 lkX6_188 mcX1_become (hp_lake0 ) rfl (ev_bec_01 (rdA_Q 120 1 _ _ _ ((bcF_lv okp.h8).okP okp) lvE.rf (tok_ok (Nat.zero_le _)).1).2.2.2.1.1) rfl rfl (Nat.le_of_ble_eq_true rfl) ?_
    refine xg_aload_n (pc := 38) dX6_lake_38 rfl ?_
    refine xg_get (pc := 39) dX6_lake_39 flX6_29 hp_0 rfl ?_
    refine xg_iconst (v := 0) (pc := 42) dX6_lake_42 (by decide) ?_
    refine xg_puti (pc := 43) (h' := hp (tri (bcF ((rdA o.2.2.2.1 L 120 1 (tok o.2.2.2.1 L 0) (bcF f0 f1)).2.1) f0) ((rdA o.2.2.2.1 L 120 1 (tok o.2.2.2.1 L 0) (bcF f0 f1)).2.1) f2) ((oK o ((rdA o.2.2.2.1 L 120 1 (tok o.2.2.2.1 L 0) (bcF f0 f1)).2.2)).1, (oK o ((rdA o.2.2.2.1 L 120 1 (tok o.2.2.2.1 L 0) (bcF f0 f1)).2.2)).2.1, 0, (oK o ((rdA o.2.2.2.1 L 120 1 (tok o.2.2.2.1 L 0) (bcF f0 f1)).2.2)).2.2.2.1, (oK o ((rdA o.2.2.2.1 L 120 1 (tok o.2.2.2.1 L 0) (bcF f0 f1)).2.2)).2.2.2.2.1, (oK o ((rdA o.2.2.2.1 L 120 1 (tok o.2.2.2.1 L 0) (bcF f0 f1)).2.2)).2.2.2.2.2.1, (oK o ((rdA o.2.2.2.1 L 120 1 (tok o.2.2.2.1 L 0) (bcF f0 f1)).2.2)).2.2.2.2.2.2.1, (oK o ((rdA o.2.2.2.1 L 120 1 (tok o.2.2.2.1 L 0) (bcF f0 f1)).2.2)).2.2.2.2.2.2.2.1, (oK o ((rdA o.2.2.2.1 L 120 1 (tok o.2.2.2.1 L 0) (bcF f0 f1)).2.2)).2.2.2.2.2.2.2.2.1, (oK o ((rdA o.2.2.2.1 L 120 1 (tok o.2.2.2.1 L 0) (bcF f0 f1)).2.2)).2.2.2.2.2.2.2.2.2.1, (oK o ((rdA o.2.2.2.1 L 120 1 (tok o.2.2.2.1 L 0) (bcF f0 f1)).2.2)).2.2.2.2.2.2.2.2.2.2) mf wf q) dX6_lake_43 flX6_220 hp_49 (Nat.le_of_ble_eq_true rfl) hs_tl ?_
    refine xg_iload_n (pc := 46) dX6_lake_46 rfl ?_
    exact xg_iret (pc := 47) dX6_lake_47 rfl (cpR (by unfold c_lake; rw [if_neg c_24]; rfl))
end
