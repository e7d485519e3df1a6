section
variable {X : xS} {d : Nat} {o : xO} {mf wf : Nat → Int32} {q : xQ} {f0 f1 f2 : Nat → Int32}
set_option maxRecDepth 100000 in
set_option maxHeartbeats 4000000 in
theorem ev_X6_on {b n w : Int32} (okp : okP f0) : xEv X false (d + 7) 0 0 mX6_on [.ref 0, .int b, .int n, .int w] (hp (tri f0 f1 f2) o mf wf q) (CQ f2 o mf wf q (sp_on f0 (hsC (ix n) f0) b n w)) := by
  have ok := okp.1.1
  have h8 := ok.2.1
  have h5 := ok.2.2.2
  refine xEv.of (ls := [some (.ref 0), some (.int b), some (.int n), some (.int w)]) mcX6_on.1.2.2.2.2 (Nat.le_of_ble_eq_true rfl) rfl ?_
  refine xg_aload_n (pc := 0) dX6_on_0 rfl ?_
  refine xg_iload_n (pc := 1) dX6_on_1 rfl ?_
  refine xg_cvI (pc := 2) (h1 := hp (tri f0 f1 f2) o mf wf q) (x := if 0 ≤ b ∧ b < f0 4 then 1 else 0) (M' := mX6_isBoat) dX6_on_2 lkX6_147 mcX6_isBoat hp_0 rfl (ev_X6_isBoat) rfl rfl (Nat.le_of_ble_eq_true rfl) ?_
  refine xg_bz (pc := 5) (tgt := 27) dX6_on_5 (by decide) (fun c_5 => ?_) (fun c_5 => ?_)
  ·
    refine xg_aload_n (pc := 27) dX6_on_27 rfl ?_
    refine xg_ldc (v := -1000000001) (pc := 28) dX6_on_28 ccX6_64 ?_
    refine xg_cvI (pc := 30) (h1 := hp (tri f0 f1 f2) (o.1, upd o.2.1 0 (o.2.1 0 + 1), o.2.2.1, o.2.2.2.1, o.2.2.2.2.1, o.2.2.2.2.2.1, o.2.2.2.2.2.2.1, o.2.2.2.2.2.2.2.1, o.2.2.2.2.2.2.2.2.1, o.2.2.2.2.2.2.2.2.2.1, o.2.2.2.2.2.2.2.2.2.2) mf wf q) (x := -1000000001) (M' := mX6_finding) dX6_on_30 lkX6_65 mcX6_finding hp_0 rfl (ev_X6_finding (j := 0) (by decide) (by decide)) rfl rfl (Nat.le_of_ble_eq_true rfl) ?_
    exact xg_iret (pc := 33) dX6_on_33 rfl (cqR (j := (some 0)) (by unfold sp_on; refine (if_neg (by first | exact ⟨c_5, c_15, c_24⟩ | exact (fun q => c_5 q.1) | exact (fun q => c_15 q.2.1) | exact (fun q => c_24 q.2.2))).trans ?_; first | (with_reducible rfl) | (simp only [*, ix_0, ix_1, ix_2, ix_3, ix_4]; done) | (simp [*, ix_0, ix_1, ix_2, ix_3, ix_4]; done) | rfl | (simp_all [ix_0, ix_1, ix_2, ix_3, ix_4]; done)))
  ·
    refine xg_iload_n (pc := 8) dX6_on_8 rfl ?_
    refine xg_iconst (v := 0) (pc := 9) dX6_on_9 (by decide) ?_
    refine xg_bipush (v := 72) (pc := 10) dX6_on_10 (by decide) ?_
    refine xg_csI (pc := 12) (h1 := hp (tri f0 f1 f2) o mf wf q) (x := if 0 ≤ n ∧ n ≤ 72 then 1 else 0) (M' := mX6_isWithin) dX6_on_12 lkX6_53 mcX6_isWithin (ev_X6_isWithin) rfl rfl (Nat.le_of_ble_eq_true rfl) ?_
    refine xg_bz (pc := 15) (tgt := 27) dX6_on_15 (by decide) (fun c_15 => ?_) (fun c_15 => ?_)
    ·
      refine xg_aload_n (pc := 27) dX6_on_27 rfl ?_
      refine xg_ldc (v := -1000000001) (pc := 28) dX6_on_28 ccX6_64 ?_
      refine xg_cvI (pc := 30) (h1 := hp (tri f0 f1 f2) (o.1, upd o.2.1 0 (o.2.1 0 + 1), o.2.2.1, o.2.2.2.1, o.2.2.2.2.1, o.2.2.2.2.2.1, o.2.2.2.2.2.2.1, o.2.2.2.2.2.2.2.1, o.2.2.2.2.2.2.2.2.1, o.2.2.2.2.2.2.2.2.2.1, o.2.2.2.2.2.2.2.2.2.2) mf wf q) (x := -1000000001) (M' := mX6_finding) dX6_on_30 lkX6_65 mcX6_finding hp_0 rfl (ev_X6_finding (j := 0) (by decide) (by decide)) rfl rfl (Nat.le_of_ble_eq_true rfl) ?_
      exact xg_iret (pc := 33) dX6_on_33 rfl (cqR (j := (some 0)) (by unfold sp_on; refine (if_neg (by first | exact ⟨c_5, c_15, c_24⟩ | exact (fun q => c_5 q.1) | exact (fun q => c_15 q.2.1) | exact (fun q => c_24 q.2.2))).trans ?_; first | (with_reducible rfl) | (simp only [*, ix_0, ix_1, ix_2, ix_3, ix_4]; done) | (simp [*, ix_0, ix_1, ix_2, ix_3, ix_4]; done) | rfl | (simp_all [ix_0, ix_1, ix_2, ix_3, ix_4]; done)))
    ·
      refine xg_iload_n (pc := 18) dX6_on_18 rfl ?_
      refine xg_iconst (v := 0) (pc := 19) dX6_on_19 (by decide) ?_
      refine xg_iconst (v := 1) (pc := 20) dX6_on_20 (by decide) ?_
      refine xg_csI (pc := 21) (h1 := hp (tri f0 f1 f2) o mf wf q) (x := if 0 ≤ w ∧ w ≤ 1 then 1 else 0) (M' := mX6_isWithin) dX6_on_21 lkX6_53 mcX6_isWithin (ev_X6_isWithin) rfl rfl (Nat.le_of_ble_eq_true rfl) ?_
      refine xg_bnz (pc := 24) (tgt := 34) dX6_on_24 (by decide) (fun c_24 => ?_) (fun c_24 => ?_)
      ·
        obtain ⟨bn, hbn, rfl⟩ := idxB ok c_5
        have ebn : ix (nI bn) = bn := nI_clamp (by omega)
        obtain ⟨nn, hnn, rfl⟩ := rngN (n := 72) c_15 (by decide)
        have enn : ix (nI nn) = nn := nI_clamp (by omega)
        refine xg_aload_n (pc := 34) dX6_on_34 rfl ?_
        refine xg_get (pc := 35) dX6_on_35 flX6_16 hp_0 rfl ?_
        refine xg_aload_n (pc := 38) dX6_on_38 rfl ?_
        refine xg_get (pc := 39) dX6_on_39 flX6_10 hp_0 rfl ?_
        refine xg_cvV (pc := 42) (h1 := hp (tri f0 (bcF f0 f1) f2) o mf wf q) (M' := mX1_become) dX6_on_42 lkX6_188 mcX1_become (hp_lake1 ) rfl (ev_bec_10 okp.1.1) rfl rfl (Nat.le_of_ble_eq_true rfl) ?_
        generalize hg1 : bcF f0 f1 = g1
        have lg : lvE f0 g1 := hg1 ▸ bcF_lv okp.h8
        refine xg_aload_n (pc := 45) dX6_on_45 rfl ?_
        refine xg_get (pc := 46) dX6_on_46 flX6_16 hp_0 rfl ?_
        refine xg_iload_n (pc := 49) dX6_on_49 rfl ?_
        refine xg_cvV (pc := 50) (h1 := hp (tri f0 (hsC nn g1) f2) o mf wf q) (M' := mX1_passHours) dX6_on_50 lkX6_172 mcX1_passHours (hp_lake1 ) rfl (ev1_X1_passHours (n := nn) (lg.okM okp.1) (by omega)) rfl rfl (Nat.le_of_ble_eq_true rfl) ?_
        refine xg_iload_n (pc := 53) dX6_on_53 rfl ?_
        refine xg_if_ne (pc := 54) (tgt := 72) dX6_on_54 (by decide) (fun c_54 => ?_) (fun c_54 => ?_)
        ·
          refine xg_aload_n (pc := 72) dX6_on_72 rfl ?_
          refine xg_get (pc := 73) dX6_on_73 flX6_16 hp_0 rfl ?_
          refine xg_get (pc := 76) dX6_on_76 flX6_150 (hp_lake1 ) rfl ?_
          refine xg_iload_n (pc := 79) dX6_on_79 rfl ?_
          refine xg_aald (pc := 80) (r := 12 + 16 * 1 + bn) bn dX6_on_80 (hp_barr1 ) (by decide) rfl (by omega) (by decide) (if_pos (by omega)) ?_
          refine xg_get (pc := 81) dX6_on_81 flX6_165 (hp_boat1  (by omega)) rfl ?_
          refine xg_eq (hsL_b okp lg hbn (by decide)) ?_
          exact xg_iret (pc := 84) dX6_on_84 rfl (cqR (j := none) (by unfold sp_on; refine (if_pos (by first | exact ⟨c_5, c_15, c_24⟩ | exact (fun q => c_5 q.1) | exact (fun q => c_15 q.2.1) | exact (fun q => c_24 q.2.2))).trans ?_; first | (with_reducible rfl) | (simp only [*, ix_0, ix_1, ix_2, ix_3, ix_4]; done) | (simp [*, ix_0, ix_1, ix_2, ix_3, ix_4]; done) | rfl | (simp_all [ix_0, ix_1, ix_2, ix_3, ix_4]; done)))
        ·
          refine xg_aload_n (pc := 57) dX6_on_57 rfl ?_
          refine xg_get (pc := 58) dX6_on_58 flX6_16 hp_0 rfl ?_
          refine xg_get (pc := 61) dX6_on_61 flX6_150 (hp_lake1 ) rfl ?_
          refine xg_iload_n (pc := 64) dX6_on_64 rfl ?_
          refine xg_aald (pc := 65) (r := 12 + 16 * 1 + bn) bn dX6_on_65 (hp_barr1 ) (by decide) rfl (by omega) (by decide) (if_pos (by omega)) ?_
          refine xg_get (pc := 66) dX6_on_66 flX6_162 (hp_boat1  (by omega)) rfl ?_
          refine xg_eq (hsL_b okp lg hbn (by decide)) ?_
          refine xg_goto (pc := 69) (tgt := 84) dX6_on_69 (by decide) ?_
          exact xg_iret (pc := 84) dX6_on_84 rfl (cqR (j := none) (by unfold sp_on; refine (if_pos (by first | exact ⟨c_5, c_15, c_24⟩ | exact (fun q => c_5 q.1) | exact (fun q => c_15 q.2.1) | exact (fun q => c_24 q.2.2))).trans ?_; first | (with_reducible rfl) | (simp only [*, ix_0, ix_1, ix_2, ix_3, ix_4]; done) | (simp [*, ix_0, ix_1, ix_2, ix_3, ix_4]; done) | rfl | (simp_all [ix_0, ix_1, ix_2, ix_3, ix_4]; done)))
      ·
        refine xg_aload_n (pc := 27) dX6_on_27 rfl ?_
        refine xg_ldc (v := -1000000001) (pc := 28) dX6_on_28 ccX6_64 ?_
        refine xg_cvI (pc := 30) (h1 := hp (tri f0 f1 f2) (o.1, upd o.2.1 0 (o.2.1 0 + 1), o.2.2.1, o.2.2.2.1, o.2.2.2.2.1, o.2.2.2.2.2.1, o.2.2.2.2.2.2.1, o.2.2.2.2.2.2.2.1, o.2.2.2.2.2.2.2.2.1, o.2.2.2.2.2.2.2.2.2.1, o.2.2.2.2.2.2.2.2.2.2) mf wf q) (x := -1000000001) (M' := mX6_finding) dX6_on_30 lkX6_65 mcX6_finding hp_0 rfl (ev_X6_finding (j := 0) (by decide) (by decide)) rfl rfl (Nat.le_of_ble_eq_true rfl) ?_
        exact xg_iret (pc := 33) dX6_on_33 rfl (cqR (j := (some 0)) (by unfold sp_on; refine (if_neg (by first | exact ⟨c_5, c_15, c_24⟩ | exact (fun q => c_5 q.1) | exact (fun q => c_15 q.2.1) | exact (fun q => c_24 q.2.2))).trans ?_; first | (with_reducible rfl) | (simp only [*, ix_0, ix_1, ix_2, ix_3, ix_4]; done) | (simp [*, ix_0, ix_1, ix_2, ix_3, ix_4]; done) | rfl | (simp_all [ix_0, ix_1, ix_2, ix_3, ix_4]; done)))
set_option maxRecDepth 100000 in
set_option maxHeartbeats 4000000 in
theorem ev_X6_light {t n : Int32} (okp : okP f0) : xEv X false (d + 7) 0 0 mX6_light [.ref 0, .int t, .int n] (hp (tri f0 f1 f2) o mf wf q) (CQ f2 o mf wf q (sp_light f0 (hsC (ix n) f0) t n)) := by
  have ok := okp.1.1
  have h8 := ok.2.1
  have h5 := ok.2.2.2
  refine xEv.of (ls := [some (.ref 0), some (.int t), some (.int n)]) mcX6_light.1.2.2.2.2 (Nat.le_of_ble_eq_true rfl) rfl ?_
  refine xg_aload_n (pc := 0) dX6_light_0 rfl ?_
  refine xg_iload_n (pc := 1) dX6_light_1 rfl ?_
  refine xg_cvI (pc := 2) (h1 := hp (tri f0 f1 f2) o mf wf q) (x := if 0 ≤ t ∧ t < f0 3 then 1 else 0) (M' := mX6_isThing) dX6_light_2 lkX6_99 mcX6_isThing hp_0 rfl (ev_X6_isThing) rfl rfl (Nat.le_of_ble_eq_true rfl) ?_
  refine xg_bz (pc := 5) (tgt := 18) dX6_light_5 (by decide) (fun c_5 => ?_) (fun c_5 => ?_)
  ·
    refine xg_aload_n (pc := 18) dX6_light_18 rfl ?_
    refine xg_ldc (v := -1000000001) (pc := 19) dX6_light_19 ccX6_64 ?_
    refine xg_cvI (pc := 21) (h1 := hp (tri f0 f1 f2) (o.1, upd o.2.1 0 (o.2.1 0 + 1), o.2.2.1, o.2.2.2.1, o.2.2.2.2.1, o.2.2.2.2.2.1, o.2.2.2.2.2.2.1, o.2.2.2.2.2.2.2.1, o.2.2.2.2.2.2.2.2.1, o.2.2.2.2.2.2.2.2.2.1, o.2.2.2.2.2.2.2.2.2.2) mf wf q) (x := -1000000001) (M' := mX6_finding) dX6_light_21 lkX6_65 mcX6_finding hp_0 rfl (ev_X6_finding (j := 0) (by decide) (by decide)) rfl rfl (Nat.le_of_ble_eq_true rfl) ?_
    exact xg_iret (pc := 24) dX6_light_24 rfl (cqR (j := (some 0)) (by unfold sp_light; refine (if_neg (by first | exact ⟨c_5, c_15⟩ | exact (fun q => c_5 q.1) | exact (fun q => c_15 q.2))).trans ?_; first | (with_reducible rfl) | (simp only [*, ix_0, ix_1, ix_2, ix_3, ix_4]; done) | (simp [*, ix_0, ix_1, ix_2, ix_3, ix_4]; done) | rfl | (simp_all [ix_0, ix_1, ix_2, ix_3, ix_4]; done)))
  ·
    refine xg_iload_n (pc := 8) dX6_light_8 rfl ?_
    refine xg_iconst (v := 0) (pc := 9) dX6_light_9 (by decide) ?_
    refine xg_bipush (v := 72) (pc := 10) dX6_light_10 (by decide) ?_
    refine xg_csI (pc := 12) (h1 := hp (tri f0 f1 f2) o mf wf q) (x := if 0 ≤ n ∧ n ≤ 72 then 1 else 0) (M' := mX6_isWithin) dX6_light_12 lkX6_53 mcX6_isWithin (ev_X6_isWithin) rfl rfl (Nat.le_of_ble_eq_true rfl) ?_
    refine xg_bnz (pc := 15) (tgt := 25) dX6_light_15 (by decide) (fun c_15 => ?_) (fun c_15 => ?_)
    ·
      obtain ⟨tn, htn, rfl⟩ := idxT ok c_5
      have etn : ix (nI tn) = tn := nI_clamp (by omega)
      obtain ⟨nn, hnn, rfl⟩ := rngN (n := 72) c_15 (by decide)
      have enn : ix (nI nn) = nn := nI_clamp (by omega)
      refine xg_aload_n (pc := 25) dX6_light_25 rfl ?_
      refine xg_get (pc := 26) dX6_light_26 flX6_16 hp_0 rfl ?_
      refine xg_aload_n (pc := 29) dX6_light_29 rfl ?_
      refine xg_get (pc := 30) dX6_light_30 flX6_10 hp_0 rfl ?_
      refine xg_cvV (pc := 33) (h1 := hp (tri f0 (bcF f0 f1) f2) o mf wf q) (M' := mX1_become) dX6_light_33 lkX6_188 mcX1_become (hp_lake1 ) rfl (ev_bec_10 okp.1.1) rfl rfl (Nat.le_of_ble_eq_true rfl) ?_
      generalize hg1 : bcF f0 f1 = g1
      have lg : lvE f0 g1 := hg1 ▸ bcF_lv okp.h8
      refine xg_aload_n (pc := 36) dX6_light_36 rfl ?_
      refine xg_get (pc := 37) dX6_light_37 flX6_16 hp_0 rfl ?_
      refine xg_iload_n (pc := 40) dX6_light_40 rfl ?_
      refine xg_cvV (pc := 41) (h1 := hp (tri f0 (hsC nn g1) f2) o mf wf q) (M' := mX1_passHours) dX6_light_41 lkX6_172 mcX1_passHours (hp_lake1 ) rfl (ev1_X1_passHours (n := nn) (lg.okM okp.1) (by omega)) rfl rfl (Nat.le_of_ble_eq_true rfl) ?_
      refine xg_aload_n (pc := 44) dX6_light_44 rfl ?_
      refine xg_get (pc := 45) dX6_light_45 flX6_16 hp_0 rfl ?_
      refine xg_get (pc := 48) dX6_light_48 flX6_102 (hp_lake1 ) rfl ?_
      refine xg_iload_n (pc := 51) dX6_light_51 rfl ?_
      refine xg_aald (pc := 52) (r := 3 + 16 * 1 + tn) tn dX6_light_52 (hp_tarr1 ) (by decide) rfl (by omega) (by decide) (if_pos (by omega)) ?_
      refine xg_get (pc := 53) dX6_light_53 flX6_117 (hp_thing1  (by omega)) rfl ?_
      refine xg_eq (hsL_t okp lg htn (by decide)) ?_
      exact xg_iret (pc := 56) dX6_light_56 rfl (cqR (j := none) (by unfold sp_light; refine (if_pos (by first | exact ⟨c_5, c_15⟩ | exact (fun q => c_5 q.1) | exact (fun q => c_15 q.2))).trans ?_; first | (with_reducible rfl) | (simp only [*, ix_0, ix_1, ix_2, ix_3, ix_4]; done) | (simp [*, ix_0, ix_1, ix_2, ix_3, ix_4]; done) | rfl | (simp_all [ix_0, ix_1, ix_2, ix_3, ix_4]; done)))
    ·
      refine xg_aload_n (pc := 18) dX6_light_18 rfl ?_
      refine xg_ldc (v := -1000000001) (pc := 19) dX6_light_19 ccX6_64 ?_
      refine xg_cvI (pc := 21) (h1 := hp (tri f0 f1 f2) (o.1, upd o.2.1 0 (o.2.1 0 + 1), o.2.2.1, o.2.2.2.1, o.2.2.2.2.1, o.2.2.2.2.2.1, o.2.2.2.2.2.2.1, o.2.2.2.2.2.2.2.1, o.2.2.2.2.2.2.2.2.1, o.2.2.2.2.2.2.2.2.2.1, o.2.2.2.2.2.2.2.2.2.2) mf wf q) (x := -1000000001) (M' := mX6_finding) dX6_light_21 lkX6_65 mcX6_finding hp_0 rfl (ev_X6_finding (j := 0) (by decide) (by decide)) rfl rfl (Nat.le_of_ble_eq_true rfl) ?_
      exact xg_iret (pc := 24) dX6_light_24 rfl (cqR (j := (some 0)) (by unfold sp_light; refine (if_neg (by first | exact ⟨c_5, c_15⟩ | exact (fun q => c_5 q.1) | exact (fun q => c_15 q.2))).trans ?_; first | (with_reducible rfl) | (simp only [*, ix_0, ix_1, ix_2, ix_3, ix_4]; done) | (simp [*, ix_0, ix_1, ix_2, ix_3, ix_4]; done) | rfl | (simp_all [ix_0, ix_1, ix_2, ix_3, ix_4]; done)))
set_option maxRecDepth 100000 in
theorem lp_X6_full {bn : Nat} {v : Int32} {g1 : Nat → Int32} (okp : okP f0) (lg : lvE f0 g1) (hbn : bn < nB f0) : ∀ (k tq : Nat), tq + k = 73 → xGo X false (d + 6) 0 0 mX6_full 39 [some (.ref 0), some (.int (nI bn)), some (.int v), some (.int (nI tq))] [] (hp (tri f0 (hsC tq g1) f2) o mf wf q) (CQ f2 o mf wf q (orN f0 (srch (fun n => v ≤ hsC n f0 (45 + 4 * bn + 2)) k tq))) := by
  intro k
  induction k with
  | zero =>
    intro tq ht
    have etq : tq = 73 := by omega
    subst etq
    refine xg_iload_n (pc := 39) dX6_full_39 rfl ?_
    refine xg_bipush (v := 72) (pc := 40) dX6_full_40 (by decide) ?_
    refine xg_icmp_gt (pc := 42) (tgt := 76) dX6_full_42 (by decide) (fun c_42 => ?_) (fun c_42 => absurd c_42 (by decide))
    refine xg_aload_n (pc := 76) dX6_full_76 rfl ?_
    refine xg_ldc (v := -1000000004) (pc := 77) dX6_full_77 ccX6_195 ?_
    refine xg_cvI (pc := 79) (h1 := hp (tri f0 (hsC 73 g1) f2) (o.1, upd o.2.1 3 (o.2.1 3 + 1), o.2.2.1, o.2.2.2.1, o.2.2.2.2.1, o.2.2.2.2.2.1, o.2.2.2.2.2.2.1, o.2.2.2.2.2.2.2.1, o.2.2.2.2.2.2.2.2.1, o.2.2.2.2.2.2.2.2.2.1, o.2.2.2.2.2.2.2.2.2.2) mf wf q) (x := -1000000004) (M' := mX6_finding) dX6_full_79 lkX6_65 mcX6_finding hp_0 rfl (ev_X6_finding (j := 3) (by decide) (by decide)) rfl rfl (Nat.le_of_ble_eq_true rfl) ?_
    exact xg_iret (pc := 82) dX6_full_82 rfl (cqR (j := (some 3)) (by rfl))
  | succ k ih =>
    intro tq ht
    have h5 := okp.h5
    have h8 := okp.h8
    refine xg_iload_n (pc := 39) dX6_full_39 rfl ?_
    refine xg_bipush (v := 72) (pc := 40) dX6_full_40 (by decide) ?_
    refine xg_icmp_gt (pc := 42) (tgt := 76) dX6_full_42 (by decide) (fun c_42 => absurd c_42 (nI_nlt (a := 72) (by omega) (by omega))) (fun c_42 => ?_)
    refine xg_aload_n (pc := 45) dX6_full_45 rfl ?_
    refine xg_get (pc := 46) dX6_full_46 flX6_16 hp_0 rfl ?_
    refine xg_get (pc := 49) dX6_full_49 flX6_150 (hp_lake1 ) rfl ?_
    refine xg_iload_n (pc := 52) dX6_full_52 rfl ?_
    refine xg_aald (pc := 53) (r := 12 + 16 * 1 + bn) bn dX6_full_53 (hp_barr1 ) (by decide) rfl (by omega) (by decide) (if_pos (by omega)) ?_
    refine xg_get (pc := 54) dX6_full_54 flX6_162 (hp_boat1  (by omega)) rfl ?_
    refine xg_eq (hsL_b okp lg hbn (by decide)) ?_
    refine xg_iload_n (pc := 57) dX6_full_57 rfl ?_
    refine xg_icmp_lt (pc := 58) (tgt := 63) dX6_full_58 (by decide) (fun c_58 => ?_) (fun c_58 => ?_)
    ·
      refine xg_aload_n (pc := 63) dX6_full_63 rfl ?_
      refine xg_get (pc := 64) dX6_full_64 flX6_16 hp_0 rfl ?_
      refine xg_cvV (pc := 67) (h1 := hp (tri f0 (hrC (hsC tq g1)) f2) o mf wf q) (M' := mX1_passHour) dX6_full_67 lkX6_192 mcX1_passHour (hp_lake1 ) rfl (ev1_X1_passHour (hsC_ok (lg.okM okp.1) tq)) rfl rfl (Nat.le_of_ble_eq_true rfl) ?_
      refine xg_iinc (pc := 70) (y := nI (tq + 1)) (ls' := [some (.ref 0), some (.int (nI bn)), some (.int v), some (.int (nI (tq + 1)))]) dX6_full_70 rfl (xinc _) (by decide) rfl ?_
      refine xg_goto (pc := 73) (tgt := 39) dX6_full_73 (by decide) ?_
      rw [show srch (fun n => v ≤ hsC n f0 (45 + 4 * bn + 2)) (k + 1) tq = srch (fun n => v ≤ hsC n f0 (45 + 4 * bn + 2)) k (tq + 1) from if_neg (Int32.not_le.mpr c_58)]
      exact ih (tq + 1) (by omega)
    ·
      refine xg_iload_n (pc := 61) dX6_full_61 rfl ?_
      exact xg_iret (pc := 62) dX6_full_62 rfl (cqR (j := none) (by rw [srch, if_pos (Int32.not_lt.mp c_58)]; rfl))
set_option maxRecDepth 100000 in
theorem lp_X6_dark {tn : Nat} {g1 : Nat → Int32} (okp : okP f0) (lg : lvE f0 g1) (htn : tn < nT f0) : ∀ (k tq : Nat), tq + k = 73 → xGo X false (d + 6) 0 0 mX6_dark 28 [some (.ref 0), some (.int (nI tn)), some (.int (nI tq))] [] (hp (tri f0 (hsC tq g1) f2) o mf wf q) (CQ f2 o mf wf q (orN f0 (srch (fun n => hsC n f0 (5 + 5 * tn + 3) = 0) k tq))) := by
  intro k
  induction k with
  | zero =>
    intro tq ht
    have etq : tq = 73 := by omega
    subst etq
    refine xg_iload_n (pc := 28) dX6_dark_28 rfl ?_
    refine xg_bipush (v := 72) (pc := 29) dX6_dark_29 (by decide) ?_
    refine xg_icmp_gt (pc := 31) (tgt := 64) dX6_dark_31 (by decide) (fun c_31 => ?_) (fun c_31 => absurd c_31 (by decide))
    refine xg_aload_n (pc := 64) dX6_dark_64 rfl ?_
    refine xg_ldc (v := -1000000004) (pc := 65) dX6_dark_65 ccX6_195 ?_
    refine xg_cvI (pc := 67) (h1 := hp (tri f0 (hsC 73 g1) f2) (o.1, upd o.2.1 3 (o.2.1 3 + 1), o.2.2.1, o.2.2.2.1, o.2.2.2.2.1, o.2.2.2.2.2.1, o.2.2.2.2.2.2.1, o.2.2.2.2.2.2.2.1, o.2.2.2.2.2.2.2.2.1, o.2.2.2.2.2.2.2.2.2.1, o.2.2.2.2.2.2.2.2.2.2) mf wf q) (x := -1000000004) (M' := mX6_finding) dX6_dark_67 lkX6_65 mcX6_finding hp_0 rfl (ev_X6_finding (j := 3) (by decide) (by decide)) rfl rfl (Nat.le_of_ble_eq_true rfl) ?_
    exact xg_iret (pc := 70) dX6_dark_70 rfl (cqR (j := (some 3)) (by rfl))
  | succ k ih =>
    intro tq ht
    have h5 := okp.h5
    have h8 := okp.h8
    refine xg_iload_n (pc := 28) dX6_dark_28 rfl ?_
    refine xg_bipush (v := 72) (pc := 29) dX6_dark_29 (by decide) ?_
    refine xg_icmp_gt (pc := 31) (tgt := 64) dX6_dark_31 (by decide) (fun c_31 => absurd c_31 (nI_nlt (a := 72) (by omega) (by omega))) (fun c_31 => ?_)
    refine xg_aload_n (pc := 34) dX6_dark_34 rfl ?_
    refine xg_get (pc := 35) dX6_dark_35 flX6_16 hp_0 rfl ?_
    refine xg_get (pc := 38) dX6_dark_38 flX6_102 (hp_lake1 ) rfl ?_
    refine xg_iload_n (pc := 41) dX6_dark_41 rfl ?_
    refine xg_aald (pc := 42) (r := 3 + 16 * 1 + tn) tn dX6_dark_42 (hp_tarr1 ) (by decide) rfl (by omega) (by decide) (if_pos (by omega)) ?_
    refine xg_get (pc := 43) dX6_dark_43 flX6_117 (hp_thing1  (by omega)) rfl ?_
    refine xg_eq (hsL_t okp lg htn (by decide)) ?_
    refine xg_if_ne (pc := 46) (tgt := 51) dX6_dark_46 (by decide) (fun c_46 => ?_) (fun c_46 => ?_)
    ·
      refine xg_aload_n (pc := 51) dX6_dark_51 rfl ?_
      refine xg_get (pc := 52) dX6_dark_52 flX6_16 hp_0 rfl ?_
      refine xg_cvV (pc := 55) (h1 := hp (tri f0 (hrC (hsC tq g1)) f2) o mf wf q) (M' := mX1_passHour) dX6_dark_55 lkX6_192 mcX1_passHour (hp_lake1 ) rfl (ev1_X1_passHour (hsC_ok (lg.okM okp.1) tq)) rfl rfl (Nat.le_of_ble_eq_true rfl) ?_
      refine xg_iinc (pc := 58) (y := nI (tq + 1)) (ls' := [some (.ref 0), some (.int (nI tn)), some (.int (nI (tq + 1)))]) dX6_dark_58 rfl (xinc _) (by decide) rfl ?_
      refine xg_goto (pc := 61) (tgt := 28) dX6_dark_61 (by decide) ?_
      rw [show srch (fun n => hsC n f0 (5 + 5 * tn + 3) = 0) (k + 1) tq = srch (fun n => hsC n f0 (5 + 5 * tn + 3) = 0) k (tq + 1) from if_neg c_46]
      exact ih (tq + 1) (by omega)
    ·
      refine xg_iload_n (pc := 49) dX6_dark_49 rfl ?_
      exact xg_iret (pc := 50) dX6_dark_50 rfl (cqR (j := none) (by rw [srch, if_pos c_46]; rfl))
set_option maxRecDepth 100000 in
set_option maxHeartbeats 4000000 in
theorem ev_X6_full {b v : Int32} (okp : okP f0) : xEv X false (d + 6) 0 0 mX6_full [.ref 0, .int b, .int v] (hp (tri f0 f1 f2) o mf wf q) (CQ f2 o mf wf q (sp_full f0 (srch (fun n => v ≤ hsC n f0 (45 + 4 * ix b + 2)) 73 0) b v)) := by
  have ok := okp.1.1
  have h8 := ok.2.1
  have h5 := ok.2.2.2
  refine xEv.of (ls := [some (.ref 0), some (.int b), some (.int v), none]) mcX6_full.1.2.2.2.2 (Nat.le_of_ble_eq_true rfl) rfl ?_
  refine xg_aload_n (pc := 0) dX6_full_0 rfl ?_
  refine xg_iload_n (pc := 1) dX6_full_1 rfl ?_
  refine xg_cvI (pc := 2) (h1 := hp (tri f0 f1 f2) o mf wf q) (x := if 0 ≤ b ∧ b < f0 4 then 1 else 0) (M' := mX6_isBoat) dX6_full_2 lkX6_147 mcX6_isBoat hp_0 rfl (ev_X6_isBoat) rfl rfl (Nat.le_of_ble_eq_true rfl) ?_
  refine xg_bz (pc := 5) (tgt := 19) dX6_full_5 (by decide) (fun c_5 => ?_) (fun c_5 => ?_)
  ·
    refine xg_aload_n (pc := 19) dX6_full_19 rfl ?_
    refine xg_ldc (v := -1000000001) (pc := 20) dX6_full_20 ccX6_64 ?_
    refine xg_cvI (pc := 22) (h1 := hp (tri f0 f1 f2) (o.1, upd o.2.1 0 (o.2.1 0 + 1), o.2.2.1, o.2.2.2.1, o.2.2.2.2.1, o.2.2.2.2.2.1, o.2.2.2.2.2.2.1, o.2.2.2.2.2.2.2.1, o.2.2.2.2.2.2.2.2.1, o.2.2.2.2.2.2.2.2.2.1, o.2.2.2.2.2.2.2.2.2.2) mf wf q) (x := -1000000001) (M' := mX6_finding) dX6_full_22 lkX6_65 mcX6_finding hp_0 rfl (ev_X6_finding (j := 0) (by decide) (by decide)) rfl rfl (Nat.le_of_ble_eq_true rfl) ?_
    exact xg_iret (pc := 25) dX6_full_25 rfl (cqR (j := (some 0)) (by unfold sp_full; refine (if_neg (by first | exact (fun q => c_5 q.1) | exact (fun q => c_16 q.2))).trans ?_; first | (with_reducible rfl) | (simp only [*, ix_0, ix_1, ix_2, ix_3, ix_4]; done) | (simp [*, ix_0, ix_1, ix_2, ix_3, ix_4]; done) | rfl | (simp_all [ix_0, ix_1, ix_2, ix_3, ix_4]; done)))
  ·
    refine xg_iload_n (pc := 8) dX6_full_8 rfl ?_
    refine xg_iconst (v := 1) (pc := 9) dX6_full_9 (by decide) ?_
    refine xg_sipush (v := 999) (pc := 10) dX6_full_10 (by decide) ?_
    refine xg_csI (pc := 13) (h1 := hp (tri f0 f1 f2) o mf wf q) (x := if 1 ≤ v ∧ v ≤ 999 then 1 else 0) (M' := mX6_isWithin) dX6_full_13 lkX6_53 mcX6_isWithin (ev_X6_isWithin) rfl rfl (Nat.le_of_ble_eq_true rfl) ?_
    refine xg_bnz (pc := 16) (tgt := 26) dX6_full_16 (by decide) (fun c_16 => ?_) (fun c_16 => ?_)
    ·
      obtain ⟨bn, hbn, rfl⟩ := idxB ok c_5
      have ebn : ix (nI bn) = bn := nI_clamp (by omega)
      refine xg_aload_n (pc := 26) dX6_full_26 rfl ?_
      refine xg_get (pc := 27) dX6_full_27 flX6_16 hp_0 rfl ?_
      refine xg_aload_n (pc := 30) dX6_full_30 rfl ?_
      refine xg_get (pc := 31) dX6_full_31 flX6_10 hp_0 rfl ?_
      refine xg_cvV (pc := 34) (h1 := hp (tri f0 (bcF f0 f1) f2) o mf wf q) (M' := mX1_become) dX6_full_34 lkX6_188 mcX1_become (hp_lake1 ) rfl (ev_bec_10 okp.1.1) rfl rfl (Nat.le_of_ble_eq_true rfl) ?_
      generalize hg1 : bcF f0 f1 = g1
      have lg : lvE f0 g1 := hg1 ▸ bcF_lv okp.h8
      refine xg_iconst (v := 0) (pc := 37) dX6_full_37 (by decide) ?_
      refine xg_istore_n (pc := 38) (ls' := [some (.ref 0), some (.int (nI bn)), some (.int v), some (.int 0)]) dX6_full_38 (by decide) rfl ?_
      rw [show sp_full f0 (srch (fun n => v ≤ hsC n f0 (45 + 4 * ix (nI bn) + 2)) 73 0) (nI bn) v = orN f0 (srch (fun n => v ≤ hsC n f0 (45 + 4 * bn + 2)) 73 0) from by unfold sp_full; rw [if_pos ⟨c_5, c_16⟩, ebn]]
      exact lp_X6_full okp lg hbn 73 0 rfl
    ·
      refine xg_aload_n (pc := 19) dX6_full_19 rfl ?_
      refine xg_ldc (v := -1000000001) (pc := 20) dX6_full_20 ccX6_64 ?_
      refine xg_cvI (pc := 22) (h1 := hp (tri f0 f1 f2) (o.1, upd o.2.1 0 (o.2.1 0 + 1), o.2.2.1, o.2.2.2.1, o.2.2.2.2.1, o.2.2.2.2.2.1, o.2.2.2.2.2.2.1, o.2.2.2.2.2.2.2.1, o.2.2.2.2.2.2.2.2.1, o.2.2.2.2.2.2.2.2.2.1, o.2.2.2.2.2.2.2.2.2.2) mf wf q) (x := -1000000001) (M' := mX6_finding) dX6_full_22 lkX6_65 mcX6_finding hp_0 rfl (ev_X6_finding (j := 0) (by decide) (by decide)) rfl rfl (Nat.le_of_ble_eq_true rfl) ?_
      exact xg_iret (pc := 25) dX6_full_25 rfl (cqR (j := (some 0)) (by unfold sp_full; refine (if_neg (by first | exact (fun q => c_5 q.1) | exact (fun q => c_16 q.2))).trans ?_; first | (with_reducible rfl) | (simp only [*, ix_0, ix_1, ix_2, ix_3, ix_4]; done) | (simp [*, ix_0, ix_1, ix_2, ix_3, ix_4]; done) | rfl | (simp_all [ix_0, ix_1, ix_2, ix_3, ix_4]; done)))
set_option maxRecDepth 100000 in
set_option maxHeartbeats 4000000 in
theorem ev_X6_dark {t : Int32} (okp : okP f0) : xEv X false (d + 6) 0 0 mX6_dark [.ref 0, .int t] (hp (tri f0 f1 f2) o mf wf q) (CQ f2 o mf wf q (sp_dark f0 (srch (fun n => hsC n f0 (5 + 5 * ix t + 3) = 0) 73 0) t)) := by
  have ok := okp.1.1
  have h8 := ok.2.1
  have h5 := ok.2.2.2
  refine xEv.of (ls := [some (.ref 0), some (.int t), none]) mcX6_dark.1.2.2.2.2 (Nat.le_of_ble_eq_true rfl) rfl ?_
  refine xg_aload_n (pc := 0) dX6_dark_0 rfl ?_
  refine xg_iload_n (pc := 1) dX6_dark_1 rfl ?_
  refine xg_cvI (pc := 2) (h1 := hp (tri f0 f1 f2) o mf wf q) (x := if 0 ≤ t ∧ t < f0 3 then 1 else 0) (M' := mX6_isThing) dX6_dark_2 lkX6_99 mcX6_isThing hp_0 rfl (ev_X6_isThing) rfl rfl (Nat.le_of_ble_eq_true rfl) ?_
  refine xg_bnz (pc := 5) (tgt := 15) dX6_dark_5 (by decide) (fun c_5 => ?_) (fun c_5 => ?_)
  ·
    obtain ⟨tn, htn, rfl⟩ := idxT ok c_5
    have etn : ix (nI tn) = tn := nI_clamp (by omega)
    refine xg_aload_n (pc := 15) dX6_dark_15 rfl ?_
    refine xg_get (pc := 16) dX6_dark_16 flX6_16 hp_0 rfl ?_
    refine xg_aload_n (pc := 19) dX6_dark_19 rfl ?_
    refine xg_get (pc := 20) dX6_dark_20 flX6_10 hp_0 rfl ?_
    refine xg_cvV (pc := 23) (h1 := hp (tri f0 (bcF f0 f1) f2) o mf wf q) (M' := mX1_become) dX6_dark_23 lkX6_188 mcX1_become (hp_lake1 ) rfl (ev_bec_10 okp.1.1) rfl rfl (Nat.le_of_ble_eq_true rfl) ?_
    generalize hg1 : bcF f0 f1 = g1
    have lg : lvE f0 g1 := hg1 ▸ bcF_lv okp.h8
    refine xg_iconst (v := 0) (pc := 26) dX6_dark_26 (by decide) ?_
    refine xg_istore_n (pc := 27) (ls' := [some (.ref 0), some (.int (nI tn)), some (.int 0)]) dX6_dark_27 (by decide) rfl ?_
    rw [show sp_dark f0 (srch (fun n => hsC n f0 (5 + 5 * ix (nI tn) + 3) = 0) 73 0) (nI tn) = orN f0 (srch (fun n => hsC n f0 (5 + 5 * tn + 3) = 0) 73 0) from by unfold sp_dark; rw [if_pos c_5, etn]]
    exact lp_X6_dark okp lg htn 73 0 rfl
  ·
    refine xg_aload_n (pc := 8) dX6_dark_8 rfl ?_
    refine xg_ldc (v := -1000000001) (pc := 9) dX6_dark_9 ccX6_64 ?_
    refine xg_cvI (pc := 11) (h1 := hp (tri f0 f1 f2) (o.1, upd o.2.1 0 (o.2.1 0 + 1), o.2.2.1, o.2.2.2.1, o.2.2.2.2.1, o.2.2.2.2.2.1, o.2.2.2.2.2.2.1, o.2.2.2.2.2.2.2.1, o.2.2.2.2.2.2.2.2.1, o.2.2.2.2.2.2.2.2.2.1, o.2.2.2.2.2.2.2.2.2.2) mf wf q) (x := -1000000001) (M' := mX6_finding) dX6_dark_11 lkX6_65 mcX6_finding hp_0 rfl (ev_X6_finding (j := 0) (by decide) (by decide)) rfl rfl (Nat.le_of_ble_eq_true rfl) ?_
    exact xg_iret (pc := 14) dX6_dark_14 rfl (cqR (j := (some 0)) (by unfold sp_dark; refine (if_neg (by exact c_5)).trans ?_; first | (with_reducible rfl) | (simp only [*, ix_0, ix_1, ix_2, ix_3, ix_4]; done) | (simp [*, ix_0, ix_1, ix_2, ix_3, ix_4]; done) | rfl | (simp_all [ix_0, ix_1, ix_2, ix_3, ix_4]; done)))
set_option maxRecDepth 100000 in
theorem lp_X6_spot {bn nn : Nat} (okp : okP f0) (hbn : bn < nB f0) (hnn : nn < 2 ^ 31) : ∀ (k tq : Nat), tq + k = 48 → ∀ (l6 : Option Value), ∀ (f1 : Nat → Int32), xGo X false (d + 7) 0 0 mX6_spot 34 [some (.ref 0), some (.int (nI bn)), some (.int (nI nn)), some (.int ((amx (Gs f0 bn nn (45 + 4 * bn)) (-2147483648) (0) tq).2)), some (.int ((amx (Gs f0 bn nn (45 + 4 * bn)) (-2147483648) (0) tq).1)), some (.int (nI tq)), l6] [] (hp (tri f0 f1 f2) o mf wf q) (CQ f2 o mf wf q ((amx (Gs f0 bn nn (45 + 4 * bn)) (-2147483648) 0 48).2, none, f0)) := by
  intro k
  induction k with
  | zero =>
    intro tq ht l6 f1
    have h5 := okp.h5
    have h8 := okp.h8
    have etq : tq = 48 := by omega
    subst etq
    refine xg_iload (pc := 34) dX6_spot_34 rfl ?_
    refine xg_bipush (v := 48) (pc := 36) dX6_spot_36 (by decide) ?_
    refine xg_icmp_ge (pc := 38) (tgt := 108) dX6_spot_38 (by decide) (fun c_38 => ?_) (fun c_38 => absurd c_38 (by decide))
    refine xg_iload_n (pc := 108) dX6_spot_108 rfl ?_
    exact xg_iret (pc := 109) dX6_spot_109 rfl (cqR (j := none) (by rfl))
  | succ k ih =>
    intro tq ht l6 f1
    have h5 := okp.h5
    have h8 := okp.h8
    have okx : okP (upd f0 (45 + 4 * bn + 0) (nI tq)) := okp.at (by omega) (cell_of (by omega))
    refine xg_iload (pc := 34) dX6_spot_34 rfl ?_
    refine xg_bipush (v := 48) (pc := 36) dX6_spot_36 (by decide) ?_
    refine xg_icmp_ge (pc := 38) (tgt := 108) dX6_spot_38 (by decide) (fun c_38 => absurd c_38 (nI_ge (b := 48) (by omega) (by omega))) (fun c_38 => ?_)
    refine xg_aload_n (pc := 41) dX6_spot_41 rfl ?_
    refine xg_get (pc := 42) dX6_spot_42 flX6_16 hp_0 rfl ?_
    refine xg_aload_n (pc := 45) dX6_spot_45 rfl ?_
    refine xg_get (pc := 46) dX6_spot_46 flX6_10 hp_0 rfl ?_
    refine xg_cvV (pc := 49) (h1 := hp (tri f0 (bcF f0 f1) f2) o mf wf q) (M' := mX1_become) dX6_spot_49 lkX6_188 mcX1_become (hp_lake1 ) rfl (ev_bec_10 okp.1.1) rfl rfl (Nat.le_of_ble_eq_true rfl) ?_
    generalize hg1 : bcF f0 f1 = g1
    have lg : lvE f0 g1 := hg1 ▸ bcF_lv okp.h8
    refine xg_aload_n (pc := 52) dX6_spot_52 rfl ?_
    refine xg_get (pc := 53) dX6_spot_53 flX6_16 hp_0 rfl ?_
    refine xg_get (pc := 56) dX6_spot_56 flX6_150 (hp_lake1 ) rfl ?_
    refine xg_iload_n (pc := 59) dX6_spot_59 rfl ?_
    refine xg_aald (pc := 60) (r := 12 + 16 * 1 + bn) bn dX6_spot_60 (hp_barr1 ) (by decide) rfl (by omega) (by decide) (if_pos (by omega)) ?_
    refine xg_iload (pc := 61) dX6_spot_61 rfl ?_
    refine xg_puti (pc := 63) (h' := hp (tri f0 (upd g1 (45 + 4 * bn + 0) (nI tq)) f2) o mf wf q) dX6_spot_63 flX6_154 (hp_boat1  (by omega)) (Nat.le_of_ble_eq_true rfl) (hs_b1  (c := 0) (by omega) (by decide)) ?_
    refine xg_aload_n (pc := 66) dX6_spot_66 rfl ?_
    refine xg_get (pc := 67) dX6_spot_67 flX6_16 hp_0 rfl ?_
    refine xg_iload_n (pc := 70) dX6_spot_70 rfl ?_
    refine xg_cvV (pc := 71) (h1 := hp (tri f0 (hsC nn (upd g1 (45 + 4 * bn + 0) (nI tq))) f2) o mf wf q) (M' := mX1_passHours) dX6_spot_71 lkX6_172 mcX1_passHours (hp_lake1 ) rfl (ev1_X1_passHours (n := nn) ((lg.u (by omega) (by omega)).okM okx.1) (by omega)) rfl rfl (Nat.le_of_ble_eq_true rfl) ?_
    refine xg_aload_n (pc := 74) dX6_spot_74 rfl ?_
    refine xg_get (pc := 75) dX6_spot_75 flX6_16 hp_0 rfl ?_
    refine xg_get (pc := 78) dX6_spot_78 flX6_150 (hp_lake1 ) rfl ?_
    refine xg_iload_n (pc := 81) dX6_spot_81 rfl ?_
    refine xg_aald (pc := 82) (r := 12 + 16 * 1 + bn) bn dX6_spot_82 (hp_barr1 ) (by decide) rfl (by omega) (by decide) (if_pos (by omega)) ?_
    refine xg_cvI (pc := 83) (h1 := hp (tri f0 (hsC nn (upd g1 (45 + 4 * bn + 0) (nI tq))) f2) o mf wf q) (x := (hsC nn (upd g1 (45 + 4 * bn + 0) (nI tq))) (45 + 4 * bn + 3) + (hsC nn (upd g1 (45 + 4 * bn + 0) (nI tq))) (45 + 4 * bn + 2)) (M' := mX0_worth) dX6_spot_83 lkX6_199 mcX0_worth (hp_boat1  (by omega)) rfl (ev1_X0_worth (j := bn) (by omega)) rfl rfl (Nat.le_of_ble_eq_true rfl) ?_
    refine xg_eq (show _ = (Gs f0 bn nn (45 + 4 * bn)) tq from wo_hsu (k := 45 + 4 * bn + 0) okx lg (by omega) (by omega) hbn) ?_
    refine xg_istore (pc := 86) (ls' := [some (.ref 0), some (.int (nI bn)), some (.int (nI nn)), some (.int ((amx (Gs f0 bn nn (45 + 4 * bn)) (-2147483648) (0) tq).2)), some (.int ((amx (Gs f0 bn nn (45 + 4 * bn)) (-2147483648) (0) tq).1)), some (.int (nI tq)), some (.int ((Gs f0 bn nn (45 + 4 * bn)) tq))]) dX6_spot_86 (by decide) rfl ?_
    refine xg_iload (pc := 88) dX6_spot_88 rfl ?_
    refine xg_iload (pc := 90) dX6_spot_90 rfl ?_
    refine xg_icmp_le (pc := 92) (tgt := 102) dX6_spot_92 (by decide) (fun c_92 => ?_) (fun c_92 => ?_)
    ·
      refine xg_iinc (pc := 102) (y := nI (tq + 1)) (ls' := [some (.ref 0), some (.int (nI bn)), some (.int (nI nn)), some (.int ((amx (Gs f0 bn nn (45 + 4 * bn)) (-2147483648) (0) tq).2)), some (.int ((amx (Gs f0 bn nn (45 + 4 * bn)) (-2147483648) (0) tq).1)), some (.int (nI (tq + 1))), some (.int ((Gs f0 bn nn (45 + 4 * bn)) tq))]) dX6_spot_102 rfl (xinc _) (by decide) rfl ?_
      refine xg_goto (pc := 105) (tgt := 34) dX6_spot_105 (by decide) ?_
      have e1 : amx (Gs f0 bn nn (45 + 4 * bn)) (-2147483648) (0) (tq + 1) = amx (Gs f0 bn nn (45 + 4 * bn)) (-2147483648) (0) tq := if_neg (Int32.not_lt.mpr c_92)
      have z := ih (tq + 1) (by omega)
      rw [e1] at z
      exact z _ _
    ·
      refine xg_iload (pc := 95) dX6_spot_95 rfl ?_
      refine xg_istore (pc := 97) (ls' := [some (.ref 0), some (.int (nI bn)), some (.int (nI nn)), some (.int ((amx (Gs f0 bn nn (45 + 4 * bn)) (-2147483648) (0) tq).2)), some (.int ((Gs f0 bn nn (45 + 4 * bn)) tq)), some (.int (nI tq)), some (.int ((Gs f0 bn nn (45 + 4 * bn)) tq))]) dX6_spot_97 (by decide) rfl ?_
      refine xg_iload (pc := 99) dX6_spot_99 rfl ?_
      refine xg_istore_n (pc := 101) (ls' := [some (.ref 0), some (.int (nI bn)), some (.int (nI nn)), some (.int (nI tq)), some (.int ((Gs f0 bn nn (45 + 4 * bn)) tq)), some (.int (nI tq)), some (.int ((Gs f0 bn nn (45 + 4 * bn)) tq))]) dX6_spot_101 (by decide) rfl ?_
      refine xg_iinc (pc := 102) (y := nI (tq + 1)) (ls' := [some (.ref 0), some (.int (nI bn)), some (.int (nI nn)), some (.int (nI tq)), some (.int ((Gs f0 bn nn (45 + 4 * bn)) tq)), some (.int (nI (tq + 1))), some (.int ((Gs f0 bn nn (45 + 4 * bn)) tq))]) dX6_spot_102 rfl (xinc _) (by decide) rfl ?_
      refine xg_goto (pc := 105) (tgt := 34) dX6_spot_105 (by decide) ?_
      have e1 : amx (Gs f0 bn nn (45 + 4 * bn)) (-2147483648) (0) (tq + 1) = ((Gs f0 bn nn (45 + 4 * bn)) tq, nI tq) := if_pos (Int32.not_le.mp c_92)
      have z := ih (tq + 1) (by omega)
      rw [e1] at z
      exact z _ _
set_option maxRecDepth 100000 in
set_option maxHeartbeats 4000000 in
theorem ev_X6_spot {b n : Int32} (okp : okP f0) : xEv X false (d + 7) 0 0 mX6_spot [.ref 0, .int b, .int n] (hp (tri f0 f1 f2) o mf wf q) (CQ f2 o mf wf q (sp_best f0 (amx (Gs f0 (ix b) (ix n) (45 + 4 * ix b)) (-2147483648) 0 48).2 b n (f0 4))) := by
  have ok := okp.1.1
  have h8 := ok.2.1
  have h5 := ok.2.2.2
  refine xEv.of (ls := [some (.ref 0), some (.int b), some (.int n), none, none, none, none]) mcX6_spot.1.2.2.2.2 (Nat.le_of_ble_eq_true rfl) rfl ?_
  refine xg_aload_n (pc := 0) dX6_spot_0 rfl ?_
  refine xg_iload_n (pc := 1) dX6_spot_1 rfl ?_
  refine xg_cvI (pc := 2) (h1 := hp (tri f0 f1 f2) o mf wf q) (x := if 0 ≤ b ∧ b < f0 4 then 1 else 0) (M' := mX6_isBoat) dX6_spot_2 lkX6_147 mcX6_isBoat hp_0 rfl (ev_X6_isBoat) rfl rfl (Nat.le_of_ble_eq_true rfl) ?_
  refine xg_bz (pc := 5) (tgt := 18) dX6_spot_5 (by decide) (fun c_5 => ?_) (fun c_5 => ?_)
  ·
    refine xg_aload_n (pc := 18) dX6_spot_18 rfl ?_
    refine xg_ldc (v := -1000000001) (pc := 19) dX6_spot_19 ccX6_64 ?_
    refine xg_cvI (pc := 21) (h1 := hp (tri f0 f1 f2) (o.1, upd o.2.1 0 (o.2.1 0 + 1), o.2.2.1, o.2.2.2.1, o.2.2.2.2.1, o.2.2.2.2.2.1, o.2.2.2.2.2.2.1, o.2.2.2.2.2.2.2.1, o.2.2.2.2.2.2.2.2.1, o.2.2.2.2.2.2.2.2.2.1, o.2.2.2.2.2.2.2.2.2.2) mf wf q) (x := -1000000001) (M' := mX6_finding) dX6_spot_21 lkX6_65 mcX6_finding hp_0 rfl (ev_X6_finding (j := 0) (by decide) (by decide)) rfl rfl (Nat.le_of_ble_eq_true rfl) ?_
    exact xg_iret (pc := 24) dX6_spot_24 rfl (cqR (j := (some 0)) (by unfold sp_best; refine (if_neg (by first | exact (fun q => c_5 q.1) | exact (fun q => c_15 q.2))).trans ?_; first | (with_reducible rfl) | (simp only [*, ix_0, ix_1, ix_2, ix_3, ix_4]; done) | (simp [*, ix_0, ix_1, ix_2, ix_3, ix_4]; done) | rfl | (simp_all [ix_0, ix_1, ix_2, ix_3, ix_4]; done)))
  ·
    refine xg_iload_n (pc := 8) dX6_spot_8 rfl ?_
    refine xg_iconst (v := 1) (pc := 9) dX6_spot_9 (by decide) ?_
    refine xg_bipush (v := 24) (pc := 10) dX6_spot_10 (by decide) ?_
    refine xg_csI (pc := 12) (h1 := hp (tri f0 f1 f2) o mf wf q) (x := if 1 ≤ n ∧ n ≤ 24 then 1 else 0) (M' := mX6_isWithin) dX6_spot_12 lkX6_53 mcX6_isWithin (ev_X6_isWithin) rfl rfl (Nat.le_of_ble_eq_true rfl) ?_
    refine xg_bnz (pc := 15) (tgt := 25) dX6_spot_15 (by decide) (fun c_15 => ?_) (fun c_15 => ?_)
    ·
      obtain ⟨bn, hbn, rfl⟩ := idxB ok c_5
      have ebn : ix (nI bn) = bn := nI_clamp (by omega)
      obtain ⟨nn, hnn, rfl⟩ := rng1 (n := 24) c_15 (by decide)
      have enn : ix (nI nn) = nn := nI_clamp (by omega)
      refine xg_iconst (v := 0) (pc := 25) dX6_spot_25 (by decide) ?_
      refine xg_istore_n (pc := 26) (ls' := [some (.ref 0), some (.int (nI bn)), some (.int (nI nn)), some (.int 0), none, none, none]) dX6_spot_26 (by decide) rfl ?_
      refine xg_ldc (v := -2147483648) (pc := 27) dX6_spot_27 ccX6_198 ?_
      refine xg_istore (pc := 29) (ls' := [some (.ref 0), some (.int (nI bn)), some (.int (nI nn)), some (.int 0), some (.int (-2147483648)), none, none]) dX6_spot_29 (by decide) rfl ?_
      refine xg_iconst (v := 0) (pc := 31) dX6_spot_31 (by decide) ?_
      refine xg_istore (pc := 32) (ls' := [some (.ref 0), some (.int (nI bn)), some (.int (nI nn)), some (.int 0), some (.int (-2147483648)), some (.int 0), none]) dX6_spot_32 (by decide) rfl ?_
      rw [show sp_best f0 (amx (Gs f0 (ix (nI bn)) (ix (nI nn)) (45 + 4 * ix (nI bn))) (-2147483648) 0 48).2 (nI bn) (nI nn) (f0 4) = ((amx (Gs f0 bn nn (45 + 4 * bn)) (-2147483648) 0 48).2, none, f0) from by unfold sp_best; rw [if_pos ⟨c_5, c_15⟩, ebn, enn]]
      exact lp_X6_spot okp hbn (by omega) 48 0 rfl _ _
    ·
      refine xg_aload_n (pc := 18) dX6_spot_18 rfl ?_
      refine xg_ldc (v := -1000000001) (pc := 19) dX6_spot_19 ccX6_64 ?_
      refine xg_cvI (pc := 21) (h1 := hp (tri f0 f1 f2) (o.1, upd o.2.1 0 (o.2.1 0 + 1), o.2.2.1, o.2.2.2.1, o.2.2.2.2.1, o.2.2.2.2.2.1, o.2.2.2.2.2.2.1, o.2.2.2.2.2.2.2.1, o.2.2.2.2.2.2.2.2.1, o.2.2.2.2.2.2.2.2.2.1, o.2.2.2.2.2.2.2.2.2.2) mf wf q) (x := -1000000001) (M' := mX6_finding) dX6_spot_21 lkX6_65 mcX6_finding hp_0 rfl (ev_X6_finding (j := 0) (by decide) (by decide)) rfl rfl (Nat.le_of_ble_eq_true rfl) ?_
      exact xg_iret (pc := 24) dX6_spot_24 rfl (cqR (j := (some 0)) (by unfold sp_best; refine (if_neg (by first | exact (fun q => c_5 q.1) | exact (fun q => c_15 q.2))).trans ?_; first | (with_reducible rfl) | (simp only [*, ix_0, ix_1, ix_2, ix_3, ix_4]; done) | (simp [*, ix_0, ix_1, ix_2, ix_3, ix_4]; done) | rfl | (simp_all [ix_0, ix_1, ix_2, ix_3, ix_4]; done)))
set_option maxRecDepth 100000 in
theorem lp_X6_net {bn nn : Nat} (okp : okP f0) (hbn : bn < nB f0) (hnn : nn < 2 ^ 31) : ∀ (k tq : Nat), tq + k = 100 → ∀ (l6 : Option Value), ∀ (f1 : Nat → Int32), xGo X false (d + 7) 0 0 mX6_net 34 [some (.ref 0), some (.int (nI bn)), some (.int (nI nn)), some (.int ((amx (Gs f0 bn nn (45 + 4 * bn + 1)) (-2147483648) (0) tq).2)), some (.int ((amx (Gs f0 bn nn (45 + 4 * bn + 1)) (-2147483648) (0) tq).1)), some (.int (nI tq)), l6] [] (hp (tri f0 f1 f2) o mf wf q) (CQ f2 o mf wf q ((amx (Gs f0 bn nn (45 + 4 * bn + 1)) (-2147483648) 0 100).2, none, f0)) := by
  intro k
  induction k with
  | zero =>
    intro tq ht l6 f1
    have h5 := okp.h5
    have h8 := okp.h8
    have etq : tq = 100 := by omega
    subst etq
    refine xg_iload (pc := 34) dX6_net_34 rfl ?_
    refine xg_bipush (v := 99) (pc := 36) dX6_net_36 (by decide) ?_
    refine xg_icmp_gt (pc := 38) (tgt := 108) dX6_net_38 (by decide) (fun c_38 => ?_) (fun c_38 => absurd c_38 (by decide))
    refine xg_iload_n (pc := 108) dX6_net_108 rfl ?_
    exact xg_iret (pc := 109) dX6_net_109 rfl (cqR (j := none) (by rfl))
  | succ k ih =>
    intro tq ht l6 f1
    have h5 := okp.h5
    have h8 := okp.h8
    have okx : okP (upd f0 (45 + 4 * bn + 1) (nI tq)) := okp.ne (by omega) (rg_of (m := 99) (by omega) (by omega))
    refine xg_iload (pc := 34) dX6_net_34 rfl ?_
    refine xg_bipush (v := 99) (pc := 36) dX6_net_36 (by decide) ?_
    refine xg_icmp_gt (pc := 38) (tgt := 108) dX6_net_38 (by decide) (fun c_38 => absurd c_38 (nI_nlt (a := 99) (by omega) (by omega))) (fun c_38 => ?_)
    refine xg_aload_n (pc := 41) dX6_net_41 rfl ?_
    refine xg_get (pc := 42) dX6_net_42 flX6_16 hp_0 rfl ?_
    refine xg_aload_n (pc := 45) dX6_net_45 rfl ?_
    refine xg_get (pc := 46) dX6_net_46 flX6_10 hp_0 rfl ?_
    refine xg_cvV (pc := 49) (h1 := hp (tri f0 (bcF f0 f1) f2) o mf wf q) (M' := mX1_become) dX6_net_49 lkX6_188 mcX1_become (hp_lake1 ) rfl (ev_bec_10 okp.1.1) rfl rfl (Nat.le_of_ble_eq_true rfl) ?_
    generalize hg1 : bcF f0 f1 = g1
    have lg : lvE f0 g1 := hg1 ▸ bcF_lv okp.h8
    refine xg_aload_n (pc := 52) dX6_net_52 rfl ?_
    refine xg_get (pc := 53) dX6_net_53 flX6_16 hp_0 rfl ?_
    refine xg_get (pc := 56) dX6_net_56 flX6_150 (hp_lake1 ) rfl ?_
    refine xg_iload_n (pc := 59) dX6_net_59 rfl ?_
    refine xg_aald (pc := 60) (r := 12 + 16 * 1 + bn) bn dX6_net_60 (hp_barr1 ) (by decide) rfl (by omega) (by decide) (if_pos (by omega)) ?_
    refine xg_iload (pc := 61) dX6_net_61 rfl ?_
    refine xg_puti (pc := 63) (h' := hp (tri f0 (upd g1 (45 + 4 * bn + 1) (nI tq)) f2) o mf wf q) dX6_net_63 flX6_159 (hp_boat1  (by omega)) (Nat.le_of_ble_eq_true rfl) (hs_b1  (c := 1) (by omega) (by decide)) ?_
    refine xg_aload_n (pc := 66) dX6_net_66 rfl ?_
    refine xg_get (pc := 67) dX6_net_67 flX6_16 hp_0 rfl ?_
    refine xg_iload_n (pc := 70) dX6_net_70 rfl ?_
    refine xg_cvV (pc := 71) (h1 := hp (tri f0 (hsC nn (upd g1 (45 + 4 * bn + 1) (nI tq))) f2) o mf wf q) (M' := mX1_passHours) dX6_net_71 lkX6_172 mcX1_passHours (hp_lake1 ) rfl (ev1_X1_passHours (n := nn) ((lg.u (by omega) (by omega)).okM okx.1) (by omega)) rfl rfl (Nat.le_of_ble_eq_true rfl) ?_
    refine xg_aload_n (pc := 74) dX6_net_74 rfl ?_
    refine xg_get (pc := 75) dX6_net_75 flX6_16 hp_0 rfl ?_
    refine xg_get (pc := 78) dX6_net_78 flX6_150 (hp_lake1 ) rfl ?_
    refine xg_iload_n (pc := 81) dX6_net_81 rfl ?_
    refine xg_aald (pc := 82) (r := 12 + 16 * 1 + bn) bn dX6_net_82 (hp_barr1 ) (by decide) rfl (by omega) (by decide) (if_pos (by omega)) ?_
    refine xg_cvI (pc := 83) (h1 := hp (tri f0 (hsC nn (upd g1 (45 + 4 * bn + 1) (nI tq))) f2) o mf wf q) (x := (hsC nn (upd g1 (45 + 4 * bn + 1) (nI tq))) (45 + 4 * bn + 3) + (hsC nn (upd g1 (45 + 4 * bn + 1) (nI tq))) (45 + 4 * bn + 2)) (M' := mX0_worth) dX6_net_83 lkX6_199 mcX0_worth (hp_boat1  (by omega)) rfl (ev1_X0_worth (j := bn) (by omega)) rfl rfl (Nat.le_of_ble_eq_true rfl) ?_
    refine xg_eq (show _ = (Gs f0 bn nn (45 + 4 * bn + 1)) tq from wo_hsu (k := 45 + 4 * bn + 1) okx lg (by omega) (by omega) hbn) ?_
    refine xg_istore (pc := 86) (ls' := [some (.ref 0), some (.int (nI bn)), some (.int (nI nn)), some (.int ((amx (Gs f0 bn nn (45 + 4 * bn + 1)) (-2147483648) (0) tq).2)), some (.int ((amx (Gs f0 bn nn (45 + 4 * bn + 1)) (-2147483648) (0) tq).1)), some (.int (nI tq)), some (.int ((Gs f0 bn nn (45 + 4 * bn + 1)) tq))]) dX6_net_86 (by decide) rfl ?_
    refine xg_iload (pc := 88) dX6_net_88 rfl ?_
    refine xg_iload (pc := 90) dX6_net_90 rfl ?_
    refine xg_icmp_le (pc := 92) (tgt := 102) dX6_net_92 (by decide) (fun c_92 => ?_) (fun c_92 => ?_)
    ·
      refine xg_iinc (pc := 102) (y := nI (tq + 1)) (ls' := [some (.ref 0), some (.int (nI bn)), some (.int (nI nn)), some (.int ((amx (Gs f0 bn nn (45 + 4 * bn + 1)) (-2147483648) (0) tq).2)), some (.int ((amx (Gs f0 bn nn (45 + 4 * bn + 1)) (-2147483648) (0) tq).1)), some (.int (nI (tq + 1))), some (.int ((Gs f0 bn nn (45 + 4 * bn + 1)) tq))]) dX6_net_102 rfl (xinc _) (by decide) rfl ?_
      refine xg_goto (pc := 105) (tgt := 34) dX6_net_105 (by decide) ?_
      have e1 : amx (Gs f0 bn nn (45 + 4 * bn + 1)) (-2147483648) (0) (tq + 1) = amx (Gs f0 bn nn (45 + 4 * bn + 1)) (-2147483648) (0) tq := if_neg (Int32.not_lt.mpr c_92)
      have z := ih (tq + 1) (by omega)
      rw [e1] at z
      exact z _ _
    ·
      refine xg_iload (pc := 95) dX6_net_95 rfl ?_
      refine xg_istore (pc := 97) (ls' := [some (.ref 0), some (.int (nI bn)), some (.int (nI nn)), some (.int ((amx (Gs f0 bn nn (45 + 4 * bn + 1)) (-2147483648) (0) tq).2)), some (.int ((Gs f0 bn nn (45 + 4 * bn + 1)) tq)), some (.int (nI tq)), some (.int ((Gs f0 bn nn (45 + 4 * bn + 1)) tq))]) dX6_net_97 (by decide) rfl ?_
      refine xg_iload (pc := 99) dX6_net_99 rfl ?_
      refine xg_istore_n (pc := 101) (ls' := [some (.ref 0), some (.int (nI bn)), some (.int (nI nn)), some (.int (nI tq)), some (.int ((Gs f0 bn nn (45 + 4 * bn + 1)) tq)), some (.int (nI tq)), some (.int ((Gs f0 bn nn (45 + 4 * bn + 1)) tq))]) dX6_net_101 (by decide) rfl ?_
      refine xg_iinc (pc := 102) (y := nI (tq + 1)) (ls' := [some (.ref 0), some (.int (nI bn)), some (.int (nI nn)), some (.int (nI tq)), some (.int ((Gs f0 bn nn (45 + 4 * bn + 1)) tq)), some (.int (nI (tq + 1))), some (.int ((Gs f0 bn nn (45 + 4 * bn + 1)) tq))]) dX6_net_102 rfl (xinc _) (by decide) rfl ?_
      refine xg_goto (pc := 105) (tgt := 34) dX6_net_105 (by decide) ?_
      have e1 : amx (Gs f0 bn nn (45 + 4 * bn + 1)) (-2147483648) (0) (tq + 1) = ((Gs f0 bn nn (45 + 4 * bn + 1)) tq, nI tq) := if_pos (Int32.not_le.mp c_92)
      have z := ih (tq + 1) (by omega)
      rw [e1] at z
      exact z _ _
set_option maxRecDepth 100000 in
set_option maxHeartbeats 4000000 in
theorem ev_X6_net {b n : Int32} (okp : okP f0) : xEv X false (d + 7) 0 0 mX6_net [.ref 0, .int b, .int n] (hp (tri f0 f1 f2) o mf wf q) (CQ f2 o mf wf q (sp_best f0 (amx (Gs f0 (ix b) (ix n) (45 + 4 * ix b + 1)) (-2147483648) 0 100).2 b n (f0 4))) := by
  have ok := okp.1.1
  have h8 := ok.2.1
  have h5 := ok.2.2.2
  refine xEv.of (ls := [some (.ref 0), some (.int b), some (.int n), none, none, none, none]) mcX6_net.1.2.2.2.2 (Nat.le_of_ble_eq_true rfl) rfl ?_
  refine xg_aload_n (pc := 0) dX6_net_0 rfl ?_
  refine xg_iload_n (pc := 1) dX6_net_1 rfl ?_
  refine xg_cvI (pc := 2) (h1 := hp (tri f0 f1 f2) o mf wf q) (x := if 0 ≤ b ∧ b < f0 4 then 1 else 0) (M' := mX6_isBoat) dX6_net_2 lkX6_147 mcX6_isBoat hp_0 rfl (ev_X6_isBoat) rfl rfl (Nat.le_of_ble_eq_true rfl) ?_
  refine xg_bz (pc := 5) (tgt := 18) dX6_net_5 (by decide) (fun c_5 => ?_) (fun c_5 => ?_)
  ·
    refine xg_aload_n (pc := 18) dX6_net_18 rfl ?_
    refine xg_ldc (v := -1000000001) (pc := 19) dX6_net_19 ccX6_64 ?_
    refine xg_cvI (pc := 21) (h1 := hp (tri f0 f1 f2) (o.1, upd o.2.1 0 (o.2.1 0 + 1), o.2.2.1, o.2.2.2.1, o.2.2.2.2.1, o.2.2.2.2.2.1, o.2.2.2.2.2.2.1, o.2.2.2.2.2.2.2.1, o.2.2.2.2.2.2.2.2.1, o.2.2.2.2.2.2.2.2.2.1, o.2.2.2.2.2.2.2.2.2.2) mf wf q) (x := -1000000001) (M' := mX6_finding) dX6_net_21 lkX6_65 mcX6_finding hp_0 rfl (ev_X6_finding (j := 0) (by decide) (by decide)) rfl rfl (Nat.le_of_ble_eq_true rfl) ?_
    exact xg_iret (pc := 24) dX6_net_24 rfl (cqR (j := (some 0)) (by unfold sp_best; refine (if_neg (by first | exact (fun q => c_5 q.1) | exact (fun q => c_15 q.2))).trans ?_; first | (with_reducible rfl) | (simp only [*, ix_0, ix_1, ix_2, ix_3, ix_4]; done) | (simp [*, ix_0, ix_1, ix_2, ix_3, ix_4]; done) | rfl | (simp_all [ix_0, ix_1, ix_2, ix_3, ix_4]; done)))
  ·
    refine xg_iload_n (pc := 8) dX6_net_8 rfl ?_
    refine xg_iconst (v := 1) (pc := 9) dX6_net_9 (by decide) ?_
    refine xg_bipush (v := 24) (pc := 10) dX6_net_10 (by decide) ?_
    refine xg_csI (pc := 12) (h1 := hp (tri f0 f1 f2) o mf wf q) (x := if 1 ≤ n ∧ n ≤ 24 then 1 else 0) (M' := mX6_isWithin) dX6_net_12 lkX6_53 mcX6_isWithin (ev_X6_isWithin) rfl rfl (Nat.le_of_ble_eq_true rfl) ?_
    refine xg_bnz (pc := 15) (tgt := 25) dX6_net_15 (by decide) (fun c_15 => ?_) (fun c_15 => ?_)
    ·
      obtain ⟨bn, hbn, rfl⟩ := idxB ok c_5
      have ebn : ix (nI bn) = bn := nI_clamp (by omega)
      obtain ⟨nn, hnn, rfl⟩ := rng1 (n := 24) c_15 (by decide)
      have enn : ix (nI nn) = nn := nI_clamp (by omega)
      refine xg_iconst (v := 0) (pc := 25) dX6_net_25 (by decide) ?_
      refine xg_istore_n (pc := 26) (ls' := [some (.ref 0), some (.int (nI bn)), some (.int (nI nn)), some (.int 0), none, none, none]) dX6_net_26 (by decide) rfl ?_
      refine xg_ldc (v := -2147483648) (pc := 27) dX6_net_27 ccX6_198 ?_
      refine xg_istore (pc := 29) (ls' := [some (.ref 0), some (.int (nI bn)), some (.int (nI nn)), some (.int 0), some (.int (-2147483648)), none, none]) dX6_net_29 (by decide) rfl ?_
      refine xg_iconst (v := 0) (pc := 31) dX6_net_31 (by decide) ?_
      refine xg_istore (pc := 32) (ls' := [some (.ref 0), some (.int (nI bn)), some (.int (nI nn)), some (.int 0), some (.int (-2147483648)), some (.int 0), none]) dX6_net_32 (by decide) rfl ?_
      rw [show sp_best f0 (amx (Gs f0 (ix (nI bn)) (ix (nI nn)) (45 + 4 * ix (nI bn) + 1)) (-2147483648) 0 100).2 (nI bn) (nI nn) (f0 4) = ((amx (Gs f0 bn nn (45 + 4 * bn + 1)) (-2147483648) 0 100).2, none, f0) from by unfold sp_best; rw [if_pos ⟨c_5, c_15⟩, ebn, enn]]
      exact lp_X6_net okp hbn (by omega) 100 0 rfl _ _
    ·
      refine xg_aload_n (pc := 18) dX6_net_18 rfl ?_
      refine xg_ldc (v := -1000000001) (pc := 19) dX6_net_19 ccX6_64 ?_
      refine xg_cvI (pc := 21) (h1 := hp (tri f0 f1 f2) (o.1, upd o.2.1 0 (o.2.1 0 + 1), o.2.2.1, o.2.2.2.1, o.2.2.2.2.1, o.2.2.2.2.2.1, o.2.2.2.2.2.2.1, o.2.2.2.2.2.2.2.1, o.2.2.2.2.2.2.2.2.1, o.2.2.2.2.2.2.2.2.2.1, o.2.2.2.2.2.2.2.2.2.2) mf wf q) (x := -1000000001) (M' := mX6_finding) dX6_net_21 lkX6_65 mcX6_finding hp_0 rfl (ev_X6_finding (j := 0) (by decide) (by decide)) rfl rfl (Nat.le_of_ble_eq_true rfl) ?_
      exact xg_iret (pc := 24) dX6_net_24 rfl (cqR (j := (some 0)) (by unfold sp_best; refine (if_neg (by first | exact (fun q => c_5 q.1) | exact (fun q => c_15 q.2))).trans ?_; first | (with_reducible rfl) | (simp only [*, ix_0, ix_1, ix_2, ix_3, ix_4]; done) | (simp [*, ix_0, ix_1, ix_2, ix_3, ix_4]; done) | rfl | (simp_all [ix_0, ix_1, ix_2, ix_3, ix_4]; done)))
end
