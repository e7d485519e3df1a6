section
variable {X : xS} {d : Nat} {o : xO} {mf wf : Nat → Int32} {q : xQ} {f0 f1 f2 : Nat → Int32}
set_option maxRecDepth 100000 in
set_option maxHeartbeats 4000000 in
theorem ev_X6_on {b n w : Int32} (okp : okP f0) : xEv X false (d + 7) 0 0 mX6_on [.ref 0, .int b, .int n, .int w] (hp (tri f0 f1 f2) o mf wf q) (CQ f2 o mf wf q (sp_on f0 (hsC (ix n) f0) b n w)) := by
  have ok := okp.1.1
  have h8 := ok.2.1
  have h5 := ok.2.2.2
  refine xEv.of (ls := [some (.ref 0), some (.int b), some (.int n), some (.int w)]) mcX6_on.1.2.2.2.2 (Nat.le_of_ble_eq_true rfl) rfl ?_
  refine xg_aload_n (pc := 0) dX6_on_0 rfl ?_
  refine xg_iload_n (pc := 1) dX6_on_1 rfl ?_
  refine xg_cvI (pc := 2) (h1 := hp (tri f0 f1 f2) o mf wf q) (x := if 0 ≤ b ∧ b < f0 4 then 1 else 0) (M' := mX6_isBoat) dX6_on_2 lkX6_147 mcX6_isBoat hp_0 rfl (ev_X6_isBoat) rfl rfl (Nat.le_of_ble_eq_true rfl) ?_
  refine xg_bz (pc := 5) (tgt := 27) dX6_on_5 (by decide) (fun c_5 => ?_) (fun c_5 => ?_)
  ·
    refine xg_aload_n (pc := 27) dX6_on_27 rfl ?_
    refine xg_ldc (v := -1000000001) (pc := 28) dX6_on_28 ccX6_64 ?_
    refine xg_cvI (pc := 30) (h1 := hp (tri f0 f1 f2) (o.1, upd o.2.1 0 (o.2.1 0 + 1), o.2.2.1, o.2.2.2.1, o.2.2.2.2.1, o.2.2.2.2.2.1, o.2.2.2.2.2.2.1, o.2.2.2.2.2.2.2.1, o.2.2.2.2.2.2.2.2.1, o.2.2.2.2.2.2.2.2.2.1, o.2.2.2.2.2.2.2.2.2.2) mf wf q) (x := -1000000001) (M' := mX6_finding) dX6_on_30 lkX6_65 mcX6_finding hp_0 rfl (ev_X6_finding (j := 0) (by decide) (by decide)) rfl rfl (Nat.le_of_ble_eq_true rfl) ?_
    exact xg_iret (pc := 33) dX6_on_33 rfl (cqR (j := (some 0)) (by unfold sp_on; refine (if_neg (by first | exact ⟨c_5, c_15, c_24⟩ | exact (fun q => c_5 q.1) | exact (fun q => c_15 q.2.1) | exact (fun q => c_24 q.2.2))).trans ?_; first | (with_reducible rfl) | (simp only [*, ix_0, ix_1, ix_2, ix_3, ix_4]; done) | (simp [*, ix_0, ix_1, ix_2, ix_3, ix_4]; done) | rfl | (simp_all [ix_0, ix_1, ix_2, ix_3, ix_4]; done)))
  ·
    refine xg_iload_n (pc := 8) dX6_on_8 rfl ?_
    refine xg_iconst (v := 0) (pc := 9) dX6_on_9 (by decide) ?_
    refine xg_bipush (v := 72) (pc := 10) dX6_on_10 (by decide) ?_
    refine xg_csI (pc := 12) (h1 := hp (tri f0 f1 f2) o mf wf q) (x := if 0 ≤ n ∧ n ≤ 72 then 1 else 0) (M' := mX6_isWithin) dX6_on_12 lkX6_53 mcX6_isWithin (ev_X6_isWithin) rfl rfl (Nat.le_of_ble_eq_true rfl) ?_
    refine xg_bz (pc := 15) (tgt := 27) dX6_on_15 (by decide) (fun c_15 => ?_) (fun c_15 => ?_)
    ·
      refine xg_aload_n (pc := 27) dX6_on_27 rfl ?_
      refine xg_ldc (v := -1000000001) (pc := 28) dX6_on_28 ccX6_64 ?_
      refine xg_cvI (pc := 30) (h1 := hp (tri f0 f1 f2) (o.1, upd o.2.1 0 (o.2.1 0 + 1), o.2.2.1, o.2.2.2.1, o.2.2.2.2.1, o.2.2.2.2.2.1, o.2.2.2.2.2.2.1, o.2.2.2.2.2.2.2.1, o.2.2.2.2.2.2.2.2.1, o.2.2.2.2.2.2.2.2.2.1, o.2.2.2.2.2.2.2.2.2.2) mf wf q) (x := -1000000001) (M' := mX6_finding) dX6_on_30 lkX6_65 mcX6_finding hp_0 rfl (ev_X6_finding (j := 0) (by decide) (by decide)) rfl rfl (Nat.le_of_ble_eq_true rfl) ?_
      exact xg_iret (pc := 33) dX6_on_33 rfl (cqR (j := (some 0)) (by unfold sp_on; refine (if_neg (by first | exact ⟨c_5, c_15, c_24⟩ | exact (fun q => c_5 q.1) | exact (fun q => c_15 q.2.1) | exact (fun q => c_24 q.2.2))).trans ?_; first | (with_reducible rfl) | (simp only [*, ix_0, ix_1, ix_2, ix_3, ix_4]; done) | (simp [*, ix_0, ix_1, ix_2, ix_3, ix_4]; done) | rfl | (simp_all [ix_0, ix_1, ix_2, ix_3, ix_4]; done)))
    ·
      refine xg_iload_n (pc := 18) dX6_on_18 rfl ?_
      refine xg_iconst (v := 0) (pc := 19) dX6_on_19 (by decide) ?_
      refine xg_iconst (v := 1) (pc := 20) dX6_on_20 (by decide) ?_
      refine xg_csI (pc := 21) (h1 := hp (tri f0 f1 f2) o mf wf q) (x := if 0 ≤ w ∧ w ≤ 1 then 1 else 0) (M' := mX6_isWithin) dX6_on_21 lkX6_53 mcX6_isWithin (ev_X6_isWithin) rfl rfl (Nat.le_of_ble_eq_true rfl) ?_
      refine xg_bnz (pc := 24) (tgt := 34) dX6_on_24 (by decide) (fun c_24 => ?_) (fun c_24 => ?_)
      ·
        obtain ⟨bn, hbn, rfl⟩ := idxB ok c_5
        have ebn : ix (nI bn) = bn := nI_clamp (by omega)
        obtain ⟨nn, hnn, rfl⟩ := rngN (n := 72) c_15 (by decide)
        have enn : ix (nI nn) = nn := nI_clamp (by omega)
        refine xg_aload_n (pc := 34) dX6_on_34 rfl ?_
        refine xg_get (pc := 35) dX6_on_35 flX6_16 hp_0 rfl ?_
        refine xg_aload_n (pc := 38) dX6_on_38 rfl ?_
        refine xg_get (pc := 39) dX6_on_39 flX6_10 hp_0 rfl ?_
        refine xg_cvV (pc := 42) (h1 := hp (tri f0 (bcF f0 f1) f2) o mf wf q) (M' := mX1_become) dX6_on_42 lkX6_188 mcX1_become (hp_lake1 ) rfl (ev_bec_10 okp.1.1) rfl rfl (Nat.le_of_ble_eq_true rfl) ?_
        generalize hg1 : bcF f0 f1 = g1
        have lg : lvE f0 g1 := hg1 ▸ bcF_lv okp.h8
        refine xg_aload_n (pc := 45) dX6_on_45 rfl ?_
        refine xg_get (pc := 46) dX6_on_46 flX6_16 hp_0 rfl ?_
        refine xg_iload_n (pc := 49) dX6_on_49 rfl ?_
        refine xg_cvV (pc := 50) (h1 := hp (tri f0 (hsC nn g1) f2) o mf wf q) (M' := mX1_passHours) dX6_on_50 lkX6_172 mcX1_passHours (hp_lake1 ) rfl (ev1_X1_passHours (n := nn) (lg.okM okp.1) (by omega)) rfl rfl (Nat.le_of_ble_eq_true rfl) ?_
        refine xg_iload_n (pc := 53) dX6_on_53 rfl ?_
        refine xg_if_ne (pc := 54) (tgt := 72) dX6_on_54 (by decide) (fun c_54 => ?_) (fun c_54 => ?_)
        ·
          refine xg_aload_n (pc := 72) dX6_on_72 rfl ?_
          refine xg_get (pc := 73) dX6_on_73 flX6_16 hp_0 rfl ?_
          refine xg_get (pc := 76) dX6_on_76 flX6_150 (hp_lake1 ) rfl ?_
          refine xg_iload_n (pc := 79) dX6_on_79 rfl ?_
          refine xg_aald (pc := 80) (r := 12 + 16 * 1 + bn) bn dX6_on_80 (hp_barr1 ) (by decide) rfl (by omega) (by decide) (if_pos (by omega)) ?_
          refine xg_get (pc := 81) dX6_on_81 flX6_165 (hp_boat1  (by omega)) rfl ?_
          refine xg_eq (hsL_b okp lg hbn (by decide)) ?_
          exact xg_iret (pc := 84) dX6_on_84 rfl (cqR (j := none) (by unfold sp_on; refine (if_pos (by first | exact ⟨c_5, c_15, c_24⟩ | exact (fun q => c_5 q.1) | exact (fun q => c_15 q.2.1) | exact (fun q => c_24 q.2.2))).trans ?_; first | (with_reducible rfl) | (simp only [*, ix_0, ix_1, ix_2, ix_3, ix_4]; done) | (simp [*, ix_0, ix_1, ix_2, ix_3, ix_4]; done) | rfl | (simp_all [ix_0, ix_1, ix_2, ix_3, ix_4]; done)))
        ·
          refine xg_aload_n (pc := 57) dX6_on_57 rfl ?_
          refine xg_get (pc := 58) dX6_on_58 flX6_16 hp_0 rfl ?_
          refine xg_get (pc := 61) dX6_on_61 flX6_150 (hp_lake1 ) rfl ?_
          refine xg_iload_n (pc := 64) dX6_on_64 rfl ?_
          refine xg_aald (pc := 65) (r := 12 + 16 * 1 + bn) bn dX6_on_65 (hp_barr1 ) (by decide) rfl (by omega) (by decide) (if_pos (by omega)) ?_
          refine xg_get (pc := 66) dX6_on_66 flX6_162 (hp_boat1  (by omega)) rfl ?_
          refine xg_eq (hsL_b okp lg hbn (by decide)) ?_
          refine xg_goto (pc := 69) (tgt := 84) dX6_on_69 (by decide) ?_
          exact xg_iret (pc := 84) dX6_on_84 rfl (cqR (j := none) (by unfold sp_on; refine (if_pos (by first | exact ⟨c_5, c_15, c_24⟩ | exact (fun q => c_5 q.1) | exact (fun q => c_15 q.2.1) | exact (fun q => c_24 q.2.2))).trans ?_; first | (with_reducible rfl) | (simp only [*, ix_0, ix_1, ix_2, ix_3, ix_4]; done) | (simp [*, ix_0, ix_1, ix_2, ix_3, ix_4]; done) | rfl | (simp_all [ix_0, ix_1, ix_2, ix_3, ix_4]; done)))
      ·
        refine xg_aload_n (pc := 27) dX6_on_27 rfl ?_
        refine xg_ldc (v := -1000000001) (pc := 28) dX6_on_28 ccX6_64 ?_
        refine xg_cvI (pc := 30) (h1 := hp (tri f0 f1 f2) (o.1, upd o.2.1 0 (o.2.1 0 + 1), o.2.2.1, o.2.2.2.1, o.2.2.2.2.1, o.2.2.2.2.2.1, o.2.2.2.2.2.2.1, o.2.2.2.2.2.2.2.1, o.2.2.2.2.2.2.2.2.1, o.2.2.2.2.2.2.2.2.2.1, o.2.2.2.2.2.2.2.2.2.2) mf wf q) (x := -1000000001) (M' := mX6_finding) dX6_on_30 lkX6_65 mcX6_finding hp_0 rfl (ev_X6_finding (j := 0) (by decide) (by decide)) rfl rfl (Nat.le_of_ble_eq_true rfl) ?_
        exact xg_iret (pc := 33) dX6_on_33 rfl (cqR (j := (some 0)) (by unfold sp_on; refine (if_neg (by first | exact ⟨c_5, c_15, c_24⟩ | exact (fun q => c_5 q.1) | exact (fun q => c_15 q.2.1) | exact (fun q => c_24 q.2.2))).trans ?_; first | (with_reducible rfl) | (simp only [*, ix_0, ix_1, ix_2, ix_3, ix_4]; done) | (simp [*, ix_0, ix_1, ix_2, ix_3, ix_4]; done) | rfl | (simp_all [ix_0, ix_1, ix_2, ix_3, ix_4]; done)))
set_option maxRecDepth 100000 in
set_option maxHeartbeats 4000000 in
theorem ev_X6_light {t n : Int32} (okp : okP f0) : xEv X false (d + 7) 0 0 mX6_light [.ref 0, .int t, .int n] (hp (tri f0 f1 f2) o mf wf q) (CQ f2 o mf wf q (sp_light f0 (hsC (ix n) f0) t n)) := by
  have ok := okp.1.1
  have h8 := ok.2.1
  have h5 := ok.2.2.2
  refine xEv.of (ls := [some (.ref 0), some (.int t), some (.int n)]) mcX6_light.1.2.2.2.2 (Nat.le_of_ble_eq_true rfl) rfl ?_
  refine xg_aload_n (pc := 0) dX6_light_0 rfl ?_
  refine xg_iload_n (pc := 1) dX6_light_1 rfl ?_
  refine xg_cvI (pc := 2) (h1 := hp (tri f0 f1 f2) o mf wf q) (x := if 0 ≤ t ∧ t < f0 3 then 1 else 0) (M' := mX6_isThing) dX6_light_2 lkX6_99 mcX6_isThing hp_0 rfl (ev_X6_isThing) rfl rfl (Nat.le_of_ble_eq_true rfl) ?_
  refine xg_bz (pc := 5) (tgt := 18) dX6_light_5 (by decide) (fun c_5 => ?_) (fun c_5 => ?_)
  ·
    refine xg_aload_n (pc := 18) dX6_light_18 rfl ?_
    refine xg_ldc (v := -1000000001) (pc := 19) dX6_light_19 ccX6_64 ?_
    refine xg_cvI (pc := 21) (h1 := hp (tri f0 f1 f2) (o.1, upd o.2.1 0 (o.2.1 0 + 1), o.2.2.1, o.2.2.2.1, o.2.2.2.2.1, o.2.2.2.2.2.1, o.2.2.2.2.2.2.1, o.2.2.2.2.2.2.2.1, o.2.2.2.2.2.2.2.2.1, o.2.2.2.2.2.2.2.2.2.1, o.2.2.2.2.2.2.2.2.2.2) mf wf q) (x := -1000000001) (M' := mX6_finding) dX6_light_21 lkX6_65 mcX6_finding hp_0 rfl (ev_X6_finding (j := 0) (by decide) (by decide)) rfl rfl (Nat.le_of_ble_eq_true rfl) ?_
    exact xg_iret (pc := 24) dX6_light_24 rfl (cqR (j := (some 0)) (by unfold sp_light; refine (if_neg (by first | exact ⟨c_5, c_15⟩ | exact (fun q => c_5 q.1) | exact (fun q => c_15 q.2))).trans ?_; first | (with_reducible rfl) | (simp only [*, ix_0, ix_1, ix_2, ix_3, ix_4]; done) | (simp [*, ix_0, ix_1, ix_2, ix_3, ix_4]; done) | rfl | (simp_all [ix_0, ix_1, ix_2, ix_3, ix_4]; done)))
  ·
    refine xg_iload_n (pc := 8) dX6_light_8 rfl ?_
    refine xg_iconst (v := 0) (pc := 9) dX6_light_9 (by decide) ?_
    refine xg_bipush (v := 72) (pc := 10) dX6_light_10 (by decide) ?_
    refine xg_csI (pc := 12) (h1 := hp (tri f0 f1 f2) o mf wf q) (x := if 0 ≤ n ∧ n ≤ 72 then 1 else 0) (M' := mX6_isWithin) dX6_light_12 lkX6_53 mcX6_isWithin (ev_X6_isWithin) rfl rfl (Nat.le_of_ble_eq_true rfl) ?_
    refine xg_bnz (pc := 15) (tgt := 25) dX6_light_15 (by decide) (fun c_15 => ?_) (fun c_15 => ?_)
    ·
      obtain ⟨tn, htn, rfl⟩ := idxT ok c_5
      have etn : ix (nI tn) = tn := nI_clamp (by omega)
      obtain ⟨nn, hnn, rfl⟩ := rngN (n := 72) c_15 (by decide)
      have enn : ix (nI nn) = nn := nI_clamp (by omega)
      refine xg_aload_n (pc := 25) dX6_light_25 rfl ?_
      refine xg_get (pc := 26) dX6_light_26 flX6_16 hp_0 rfl ?_
      refine xg_aload_n (pc := 29) dX6_light_29 rfl ?_
      refine xg_get (pc := 30) dX6_light_30 flX6_10 hp_0 rfl ?_
      refine xg_cvV (pc := 33) (h1 := hp (tri f0 (bcF f0 f1) f2) o mf wf q) (M' := mX1_become) dX6_light_33 lkX6_188 mcX1_become (hp_lake1 ) rfl (ev_bec_10 okp.1.1) rfl rfl (Nat.le_of_ble_eq_true rfl) ?_
      generalize hg1 : bcF f0 f1 = g1
      have lg : lvE f0 g1 := hg1 ▸ bcF_lv okp.h8
      refine xg_aload_n (pc := 36) dX6_light_36 rfl ?_
      refine xg_get (pc := 37) dX6_light_37 flX6_16 hp_0 rfl ?_
      refine xg_iload_n (pc := 40) dX6_light_40 rfl ?_
      refine xg_cvV (pc := 41) (h1 := hp (tri f0 (hsC nn g1) f2) o mf wf q) (M' := mX1_passHours) dX6_light_41 lkX6_172 mcX1_passHours (hp_lake1 ) rfl (ev1_X1_passHours (n := nn) (lg.okM okp.1) (by omega)) rfl rfl (Nat.le_of_ble_eq_true rfl) ?_
      refine xg_aload_n (pc := 44) dX6_light_44 rfl ?_
      refine xg_get (pc := 45) dX6_light_45 flX6_16 hp_0 rfl ?_
      refine xg_get (pc := 48) dX6_light_48 flX6_102 (hp_lake1 ) rfl ?_
      refine xg_iload_n (pc := 51) dX6_light_51 rfl ?_
      refine xg_aald (pc := 52) (r := 3 + 16 * 1 + tn) tn dX6_light_52 (hp_tarr1 ) (by decide) rfl (by omega) (by decide) (if_pos (by omega)) ?_
      refine xg_get (pc := 53) dX6_light_53 flX6_117 (hp_thing1  (by omega)) rfl ?_
      refine xg_eq (hsL_t okp lg htn (by decide)) ?_
      exact xg_iret (pc := 56) dX6_light_56 rfl (cqR (j := none) (by unfold sp_light; refine (if_pos (by first | exact ⟨c_5, c_15⟩ | exact (fun q => c_5 q.1) | exact (fun q => c_15 q.2))).trans ?_; first | (with_reducible rfl) | (simp only [*, ix_0, ix_1, ix_2, ix_3, ix_4]; done) | (simp [*, ix_0, ix_1, ix_2, ix_3, ix_4]; done) | rfl | (simp_all [ix_0, ix_1, ix_2, ix_3, ix_4]; done)))
    ·
      refine xg_aload_n (pc := 18) dX6_light_18 rfl ?_
      refine xg_ldc (v := -1000000001) (pc := 19) dX6_light_19 ccX6_64 ?_
      refine xg_cvI (pc := 21) (h1 := hp (tri f0 f1 f2) (o.1, upd o.2.1 0 (o.2.1 0 + 1), o.2.2.1, o.2.2.2.1, o.2.2.2.2.1, o.2.2.2.2.2.1, o.2.2.2.2.2.2.1, o.2.2.2.2.2.2.2.1, o.2.2.2.2.2.2.2.2.1, o.2.2.2.2.2.2.2.2.2.1, o.2.2.2.2.2.2.2.2.2.2) mf wf q) (x := -1000000001) (M' := mX6_finding) dX6_light_21 lkX6_65 mcX6_finding hp_0 rfl (ev_X6_finding (j := 0) (by decide) (by decide)) rfl rfl (Nat.le_of_ble_eq_true rfl) ?_
      exact xg_iret (pc := 24) dX6_light_24 rfl (cqR (j := (some 0)) (by unfold sp_light; refine (if_neg (by first | exact ⟨c_5, c_15⟩ | exact (fun q => c_5 q.1) | exact (fun q => c_15 q.2))).trans ?_; first | (with_reducible rfl) | (simp only [*, ix_0, ix_1, ix_2, ix_3, ix_4]; done) | (simp [*, ix_0, ix_1, ix_2, ix_3, ix_4]; done) | rfl | (simp_all [ix_0, ix_1, ix_2, ix_3, ix_4]; done)))
set_option maxRecDepth 100000 in
theorem lp_X6_full {bn : Nat} {v : Int32} {g1 : Nat → Int32} (okp : okP f0) (lg : lvE f0 g1) (hbn : bn < nB f0) : ∀ (k tq : Nat), tq + k = 73 → xGo X false (d + 6) 0 0 mX6_full 39 [some (.ref 0), some (.int (nI bn)), some (.int v), some (.int (nI tq))] [] (hp (tri f0 (hsC tq g1) f2) o mf wf q) (CQ f2 o mf wf q (orN f0 (srch (fun n => v ≤ hsC n f0 (45 + 4 * bn + 2)) k tq))) := by
  intro k
  induction k with
  | zero =>
    intro tq ht
    have etq : tq = 73 := by omega
    subst etq
    refine xg_iload_n (pc := 39) dX6_full_39 rfl ?_
    refine xg_bipush (v := 72) (pc := 40) dX6_full_40 (by decide) ?_
    refine xg_icmp_gt (pc := 42) (tgt := 76) dX6_full_42 (by decide) (fun c_42 => ?_) (fun c_42 => absurd c_42 (by decide))
    refine xg_aload_n (pc := 76) dX6_full_76 rfl ?_
    refine xg_ldc (v := -1000000004) (pc := 77) dX6_full_77 ccX6_195 ?_
    refine xg_cvI (pc := 79) (h1 := hp (tri f0 (hsC 73 g1) f2) (o.1, upd o.2.1 3 (o.2.1 3 + 1), o.2.2.1, o.2.2.2.1, o.2.2.2.2.1, o.2.2.2.2.2.1, o.2.2.2.2.2.2.1, o.2.2.2.2.2.2.2.1, o.2.2.2.2.2.2.2.2.1, o.2.2.2.2.2.2.2.2.2.1, o.2.2.2.2.2.2.2.2.2.2) mf wf q) (x := -1000000004) (M' := mX6_finding) dX6_full_79 lkX6_65 mcX6_finding hp_0 rfl (ev_X6_finding (j := 3) (by decide) (by decide)) rfl rfl (Nat.le_of_ble_eq_true rfl) ?_
    exact xg_iret (pc := 82) dX6_full_82 rfl (cqR (j := (some 3)) (by rfl))
  | succ k ih =>
    intro tq ht
    have h5 := okp.h5
    have h8 := okp.h8
    refine xg_iload_n (pc := 39) dX6_full_39 rfl ?_
    refine xg_bipush (v := 72) (pc := 40) dX6_full_40 (by decide) ?_
    refine xg_icmp_gt (pc := 42) (tgt := 76) dX6_full_42 (by decide) (fun c_42 => absurd c_42 (nI_nlt (a := 72) (by omega) (by omega))) (fun c_42 => ?_)
    refine xg_aload_n (pc := 45) dX6_full_45 rfl ?_
    refine xg_get (pc := 46) dX6_full_46 flX6_16 hp_0 rfl ?_
    refine xg_get (pc := 49) dX6_full_49 flX6_150 (hp_lake1 ) rfl ?_
    refine xg_iload_n (pc := 52) dX6_full_52 rfl ?_
    refine xg_aald (pc := 53) (r := 12 + 16 * 1 + bn) bn dX6_full_53 (hp_barr1 ) (by decide) rfl (by omega) (by decide) (if_pos (by omega)) ?_
    refine xg_get (pc := 54) dX6_full_54 flX6_162 (hp_boat1  (by omega)) rfl ?_
    refine xg_eq (hsL_b okp lg hbn (by decide)) ?_
    refine xg_iload_n (pc := 57) dX6_full_57 rfl ?_
    refine xg_icmp_lt (pc := 58) (tgt := 63) dX6_full_58 (by decide) (fun c_58 => ?_) (fun c_58 => ?_)
    ·
      refine xg_aload_n (pc := 63) dX6_full_63 rfl ?_
      refine xg_get (pc := 64) dX6_full_64 flX6_16 hp_0 rfl ?_
      refine xg_cvV (pc := 67) (h1 := hp (tri f0 (hrC (hsC tq g1)) f2) o mf wf q) (M' := mX1_passHour) dX6_full_67 lkX6_192 mcX1_passHour (hp_lake1 ) rfl (ev1_X1_passHour (hsC_ok (lg.okM okp.1) tq)) rfl rfl (Nat.le_of_ble_eq_true rfl) ?_
      refine xg_iinc (pc := 70) (y := nI (tq + 1)) (ls' := [some (.ref 0), some (.int (nI bn)), some (.int v), some (.int (nI (tq + 1)))]) dX6_full_70 rfl (xinc _) (by decide) rfl ?_
      refine xg_goto (pc := 73) (tgt := 39) dX6_full_73 (by decide) ?_
      rw [show srch (fun n => v ≤ hsC n f0 (45 + 4 * bn + 2)) (k + 1) tq = srch (fun n => v ≤ hsC n f0 (45 + 4 * bn + 2)) k (tq + 1) from if_neg (Int32.not_le.mpr c_58)]
      exact ih (tq + 1) (by omega)
    ·
      refine xg_iload_n (pc := 61) dX6_full_61 rfl ?_
      exact xg_iret (pc := 62) dX6_full_62 rfl (cqR (j := none) (by rw [srch, if_pos (Int32.not_lt.mp c_58)]; rfl))
set_option maxRecDepth 100000 in
theorem lp_X6_dark {tn : Nat} {g1 : Nat → Int32} (okp : okP f0) (lg : lvE f0 g1) (htn : tn < nT f0) : ∀ (k tq : Nat), tq + k = 73 → xGo X false (d + 6) 0 0 mX6_dark 28 [some (.ref 0), some (.int (nI tn)), some (.int (nI tq))] [] (hp (tri f0 (hsC tq g1) f2) o mf wf q) (CQ f2 o mf wf q (orN f0 (srch (fun n => hsC n f0 (5 + 5 * tn + 3) = 0) k tq))) := by
  intro k
  induction k with
  | zero =>
    intro tq ht
    have etq : tq = 73 := by omega
    subst etq
    refine xg_iload_n (pc := 28) dX6_dark_28 rfl ?_
    refine xg_bipush (v := 72) (pc := 29) dX6_dark_29 (by decide) ?_
    refine xg_icmp_gt (pc := 31) (tgt := 64) dX6_dark_31 (by decide) (fun c_31 => ?_) (fun c_31 => absurd c_31 (by decide))
    refine xg_aload_n (pc := 64) dX6_dark_64 rfl ?_
    refine xg_ldc (v := -1000000004) (pc := 65) dX6_dark_65 ccX6_195 ?_
    refine xg_cvI (pc := 67) (h1 := hp (tri f0 (hsC 73 g1) f2) (o.1, upd o.2.1 3 (o.2.1 3 + 1), o.2.2.1, o.2.2.2.1, o.2.2.2.2.1, o.2.2.2.2.2.1, o.2.2.2.2.2.2.1, o.2.2.2.2.2.2.2.1, o.2.2.2.2.2.2.2.2.1, o.2.2.2.2.2.2.2.2.2.1, o.2.2.2.2.2.2.2.2.2.2) mf wf q) (x := -1000000004) (M' := mX6_finding) dX6_dark_67 lkX6_65 mcX6_finding hp_0 rfl (ev_X6_finding (j := 3) (by decide) (by decide)) rfl rfl (Nat.le_of_ble_eq_true rfl) ?_
    exact xg_iret (pc := 70) dX6_dark_70 rfl (cqR (j := (some 3)) (by rfl))
  | succ k ih =>
    intro tq ht
    have h5 := okp.h5
    have h8 := okp.h8
    refine xg_iload_n (pc := 28) dX6_dark_28 rfl ?_
    refine xg_bipush (v := 72) (pc := 29) dX6_dark_29 (by decide) ?_
    refine xg_icmp_gt (pc := 31) (tgt := 64) dX6_dark_31 (by decide) (fun c_31 => absurd c_31 (nI_nlt (a := 72) (by omega) (by omega))) (fun c_31 => ?_)
    refine xg_aload_n (pc := 34) dX6_dark_34 rfl ?_
    refine xg_get (pc := 35) dX6_dark_35 flX6_16 hp_0 rfl ?_
    refine xg_get (pc := 38) dX6_dark_38 flX6_102 (hp_lake1 ) rfl ?_
    refine xg_iload_n (pc := 41) dX6_dark_41 rfl ?_
    refine xg_aald (pc := 42) (r := 3 + 16 * 1 + tn) tn dX6_dark_42 (hp_tarr1 ) (by decide) rfl (by omega) (by decide) (if_pos (by omega)) ?_
    refine xg_get (pc := 43) dX6_dark_43 flX6_117 (hp_thing1  (by omega)) rfl ?_
    refine xg_eq (hsL_t okp lg htn (by decide)) ?_
    refine xg_if_ne (pc := 46) (tgt := 51) dX6_dark_46 (by decide) (fun c_46 => ?_) (fun c_46 => ?_)
    ·
      refine xg_aload_n (pc := 51) dX6_dark_51 rfl ?_
      refine xg_get (pc := 52) dX6_dark_52 flX6_16 hp_0 rfl ?_
      refine xg_cvV (pc := 55) (h1 := hp (tri f0 (hrC (hsC tq g1)) f2) o mf wf q) (M' := mX1_passHour) dX6_dark_55 lkX6_192 mcX1_passHour (hp_lake1 ) rfl (ev1_X1_passHour (hsC_ok (lg.okM okp.1) tq)) rfl rfl (Nat.le_of_ble_eq_true rfl) ?_
      refine xg_iinc (pc := 58) (y := nI (tq + 1)) (ls' := [some (.ref 0), some (.int (nI tn)), some (.int (nI (tq + 1)))]) dX6_dark_58 rfl (xinc _) (by decide) rfl ?_
      refine xg_goto (pc := 61) (tgt := 28) dX6_dark_61 (by decide) ?_
      rw [show srch (fun n => hsC n f0 (5 + 5 * tn + 3) = 0) (k + 1) tq = srch (fun n => hsC n f0 (5 + 5 * tn + 3) = 0) k (tq + 1) from if_neg c_46]
      exact ih (tq + 1) (by omega)
    ·
      refine xg_iload_n (pc := 49) dX6_dark_49 rfl ?_
      exact xg_iret (pc := 50) dX6_dark_50 rfl (cqR (j := none) (by rw [srch, if_pos c_46]; rfl))
set_option maxRecDepth 100000 in
set_option maxHeartbeats 4000000 in
theorem ev_X6_full {b v : Int32} (okp : okP f0) : xEv X false (d + 6) 0 0 mX6_full [.ref 0, .int b, .int v] (hp (tri f0 f1 f2) o mf wf q) (CQ f2 o mf wf q (sp_full f0 (srch (fun n => v ≤ hsC n f0 (45 + 4 * ix b + 2)) 73 0) b v)) := by
  have ok := okp.1.1
  have h8 := ok.2.1
  have h5 := ok.2.2.2
  refine xEv.of (ls := [some (.ref 0), some (.int b), some (.int v), none]) mcX6_full.1.2.2.2.2 (Nat.le_of_ble_eq_true rfl) rfl ?_
  refine xg_aload_n (pc := 0) dX6_full_0 rfl ?_
  refine xg_iload_n (pc := 1) dX6_full_1 rfl ?_
  refine xg_cvI (pc := 2) (h1 := hp (tri f0 f1 f2) o mf wf q) (x := if 0 ≤ b ∧ b < f0 4 then 1 else 0) (M' := mX6_isBoat) dX6_full_2 lkX6_147 mcX6_isBoat hp_0 rfl (ev_X6_isBoat) rfl rfl (Nat.le_of_ble_eq_true rfl) ?_
  refine xg_bz (pc := 5) (tgt := 19) dX6_full_5 (by decide) (fun c_5 => ?_) (fun c_5 => ?_)
  ·
    refine xg_aload_n (pc := 19) dX6_full_19 rfl ?_
    refine xg_ldc (v := -1000000001) (pc := 20) dX6_full_20 ccX6_64 ?_
    refine xg_cvI (pc := 22) (h1 := hp (tri f0 f1 f2) (o.1, upd o.2.1 0 (o.2.1 0 + 1), o.2.2.1, o.2.2.2.1, o.2.2.2.2.1, o.2.2.2.2.2.1, o.2.2.2.2.2.2.1, o.2.2.2.2.2.2.2.1, o.2.2.2.2.2.2.2.2.1, o.2.2.2.2.2.2.2.2.2.1, o.2.2.2.2.2.2.2.2.2.2) mf wf q) (x := -1000000001) (M' := mX6_finding) dX6_full_22 lkX6_65 mcX6_finding hp_0 rfl (ev_X6_finding (j := 0) (by decide) (by decide)) rfl rfl (Nat.le_of_ble_eq_true rfl) ?_
    exact xg_iret (pc := 25) dX6_full_25 rfl (cqR (j := (some 0)) (by unfold sp_full; refine (if_neg (by first | exact (fun q => c_5 q.1) | exact (fun q => c_16 q.2))).trans ?_; first | (with_reducible rfl) | (simp only [*, ix_0, ix_1, ix_2, ix_3, ix_4]; done) | (simp [*, ix_0, ix_1, ix_2, ix_3, ix_4]; done) | rfl | (simp_all [ix_0, ix_1, ix_2, ix_3, ix_4]; done)))
  ·
    refine xg_iload_n (pc := 8) dX6_full_8 rfl ?_
    refine xg_iconst (v := 1) (pc := 9) dX6_full_9 (by decide) ?_
    refine xg_sipush (v := 999) (pc := 10) dX6_full_10 (by decide) ?_
    refine xg_csI (pc := 13) (h1 := hp (tri f0 f1 f2) o mf wf q) (x := if 1 ≤ v ∧ v ≤ 999 then 1 else 0) (M' := mX6_isWithin) dX6_full_13 lkX6_53 mcX6_isWithin (ev_X6_isWithin) rfl rfl (Nat.le_of_ble_eq_true rfl) ?_
    refine xg_bnz (pc := 16) (tgt := 26) dX6_full_16 (by decide) (fun c_16 => ?_) (fun c_16 => ?_)
    ·
      obtain ⟨bn, hbn, rfl⟩ := idxB ok c_5
      have ebn : ix (nI bn) = bn := nI_clamp (by omega)
      refine xg_aload_n (pc := 26) dX6_full_26 rfl ?_
      refine xg_get (pc := 27) dX6_full_27 flX6_16 hp_0 rfl ?_
      refine xg_aload_n (pc := 30) dX6_full_30 rfl ?_
      refine xg_get (pc := 31) dX6_full_31 flX6_10 hp_0 rfl ?_
      refine xg_cvV (pc := 34) (h1 := hp (tri f0 (bcF f0 f1) f2) o mf wf q) (M' := mX1_become) dX6_full_34 lkX6_188 mcX1_become (hp_lake1 ) rfl (ev_bec_10 okp.1.1) rfl rfl (Nat.le_of_ble_eq_true rfl) ?_
      generalize hg1 : bcF f0 f1 = g1
      have lg : lvE f0 g1 := hg1 ▸ bcF_lv okp.h8
      refine xg_iconst (v := 0) (pc := 37) dX6_full_37 (by decide) ?_
      refine xg_istore_n (pc := 38) (ls' := [some (.ref 0), some (.int (nI bn)), some (.int v), some (.int 0)]) dX6_full_38 (by decide) rfl ?_
      rw [show sp_full f0 (srch (fun n => v ≤ hsC n f0 (45 + 4 * ix (nI bn) + 2)) 73 0) (nI bn) v = orN f0 (srch (fun n => v ≤ hsC n f0 (45 + 4 * bn + 2)) 73 0) from by unfold sp_full; rw [if_pos ⟨c_5, c_16⟩, ebn]]
      exact lp_X6_full okp lg hbn 73 0 rfl
    ·
      refine xg_aload_n (pc := 19) dX6_full_19 rfl ?_
      refine xg_ldc (v := -1000000001) (pc := 20) dX6_full_20 ccX6_64 ?_
      refine xg_cvI (pc := 22) (h1 := hp (tri f0 f1 f2) (o.1, upd o.2.1 0 (o.2.1 0 + 1), o.2.2.1, o.2.2.2.1, o.2.2.2.2.1, o.2.2.2.2.2.1, o.2.2.2.2.2.2.1, o.2.2.2.2.2.2.2.1, o.2.2.2.2.2.2.2.2.1, o.2.2.2.2.2.2.2.2.2.1, o.2.2.2.2.2.2.2.2.2.2) mf wf q) (x := -1000000001) (M' := mX6_finding) dX6_full_22 lkX6_65 mcX6_finding hp_0 rfl (ev_X6_finding (j := 0) (by decide) (by decide)) rfl rfl (Nat.le_of_ble_eq_true rfl) ?_
      exact xg_iret (pc := 25) dX6_full_25 rfl (cqR (j := (some 0)) (by unfold sp_full; refine (if_neg (by first | exact (fun q => c_5 q.1) | exact (fun q => c_16 q.2))).trans ?_; first | (with_reducible rfl) | (simp only [*, ix_0, ix_1, ix_2, ix_3, ix_4]; done) | (simp [*, ix_0, ix_1, ix_2, ix_3, ix_4]; done) | rfl | (simp_all [ix_0, ix_1, ix_2, ix_3, ix_4]; done)))
set_option maxRecDepth 100000 in
set_option maxHeartbeats 4000000 in
theorem ev_X6_dark {t : Int32} (okp : okP f0) : xEv X false (d + 6) 0 0 mX6_dark [.ref 0, .int t] (hp (tri f0 f1 f2) o mf wf q) (CQ f2 o mf wf q (sp_dark f0 (srch (fun n => hsC n f0 (5 + 5 * ix t + 3) = 0) 73 0) t)) := by
  have ok := okp.1.1
  have h8 := ok.2.1
  have h5 := ok.2.2.2
  refine xEv.of (ls := [some (.ref 0), some (.int t), none]) mcX6_dark.1.2.2.2.2 (Nat.le_of_ble_eq_true rfl) rfl ?_
  refine xg_aload_n (pc := 0) dX6_dark_0 rfl ?_
  refine xg_iload_n (pc := 1) dX6_dark_1 rfl ?_
  refine xg_cvI (pc := 2) (h1 := hp (tri f0 f1 f2) o mf wf q) (x := if 0 ≤ t ∧ t < f0 3 then 1 else 0) (M' := mX6_isThing) dX6_dark_2 lkX6_99 mcX6_isThing hp_0 rfl (ev_X6_isThing) rfl rfl (Nat.le_of_ble_eq_true rfl) ?_
  refine xg_bnz (pc := 5) (tgt := 15) dX6_dark_5 (by decide) (fun c_5 => ?_) (fun c_5 => ?_)
  ·
    obtain ⟨tn, htn, rfl⟩ := idxT ok c_5
    have etn : ix (nI tn) = tn := nI_clamp (by omega)
    refine xg_aload_n (pc := 15) dX6_dark_15 rfl ?_
    refine xg_get (pc := 16) dX6_dark_16 flX6_16 hp_0 rfl ?_
    refine xg_aload_n (pc := 19) dX6_dark_19 rfl ?_
    refine xg_get (pc := 20) dX6_dark_20 flX6_10 hp_0 rfl ?_
    refine xg_cvV (pc := 23) (h1 := hp (tri f0 (bcF f0 f1) f2) o mf wf q) (M' := mX1_become) dX6_dark_23 lkX6_188 mcX1_become (hp_lake1 ) rfl (ev_bec_10 okp.1.1) rfl rfl (Nat.le_of_ble_eq_true rfl) ?_
    generalize hg1 : bcF f0 f1 = g1
    have lg : lvE f0 g1 := hg1 ▸ bcF_lv okp.h8
    refine xg_iconst (v := 0) (pc := 26) dX6_dark_26 (by decide) ?_
    refine xg_istore_n (pc := 27) (ls' := [some (.ref 0), some (.int (nI tn)), some (.int 0)]) dX6_dark_27 (by decide) rfl ?_
    rw [show sp_dark f0 (srch (fun n => hsC n f0 (5 + 5 * ix (nI tn) + 3) = 0) 73 0) (nI tn) = orN f0 (srch (fun n => hsC n f0 (5 + 5 * tn + 3) = 0) 73 0) from by unfold sp_dark; rw [if_pos c_5, etn]]
    exact lp_X6_dark okp lg htn 73 0 rfl
  ·
    refine xg_aload_n (pc := 8) dX6_dark_8 rfl ?_
    refine xg_ldc (v := -1000000001) (pc := 9) dX6_dark_9 ccX6_64 ?_
    refine xg_cvI (pc := 11) (h1 := hp (tri f0 f1 f2) (o.1, upd o.2.1 0 (o.2.1 0 + 1), o.2.2.1, o.2.2.2.1, o.2.2.2.2.1, o.2.2.2.2.2.1, o.2.2.2.2.2.2.1, o.2.2.2.2.2.2.2.1, o.2.2.2.2.2.2.2.2.1, o.2.2.2.2.2.2.2.2.2.1, o.2.2.2.2.2.2.2.2.2.2) mf wf q) (x := -1000000001) (M' := mX6_finding) dX6_dark_11 lkX6_65 mcX6_finding hp_0 rfl (ev_X6_finding (j := 0) (by decide) (by decide)) rfl rfl (Nat.le_of_ble_eq_true rfl) ?_
    exact xg_iret (pc := 14) dX6_dark_14 rfl (cqR (j := (some 0)) (by unfold sp_dark; refine (if_neg (by exact c_5)).trans ?_; first | (with_reducible rfl) | (simp only [*, ix_0, ix_1, ix_2, ix_3, ix_4]; done) | (simp [*, ix_0, ix_1, ix_2, ix_3, ix_4]; done) | rfl | (simp_all [ix_0, ix_1, ix_2, ix_3, ix_4]; done)))
set_option maxRecDepth 100000 in
theorem lp_X6_spot {bn nn : Nat} (okp : okP f0) (hbn : bn < nB f0) (hnn : nn < 2 ^ 31) : ∀ (k tq : Nat), tq + k = 48 → ∀ (l6 : Option Value), ∀ (f1 : Nat → Int32), xGo X false (d + 7) 0 0 mX6_spot 34 [some (.ref 0), some (.int (nI bn)), some (.int (nI nn)), some (.int ((amx (Gs f0 bn nn (45 + 4 * bn)) (-2147483648) (0) tq).2)), some (.int ((amx (Gs f0 bn nn (45 + 4 * bn)) (-2147483648) (0) tq).1)), some (.int (nI tq)), l6] [] (hp (tri f0 f1 f2) o mf wf q) (CQ f2 o mf wf q ((amx (Gs f0 bn nn (45 + 4 * bn)) (-2147483648) 0 48).2, none, f0)) := by
  intro k
  induction k with
  | zero =>
    intro tq ht l6 f1
    have h5 := okp.h5
    have h8 := okp.h8
    have etq : tq = 48 := by omega
    subst etq
    refine xg_iload (pc := 34) dX6_spot_34 rfl ?_
    refine xg_bipush (v := 48) (pc := 36) dX6_spot_36 (by decide) ?_
    refine xg_icmp_ge (pc := 38) (tgt := 108) dX6_spot_38 (by decide) (fun c_38 => ?_) (fun c_38 => absurd c_38 (by decide))
    refine xg_iload_n (pc := 108) dX6_spot_108 rfl ?_
    exact xg_iret (pc := 109) dX6_spot_109 rfl (cqR (j := none) (by rfl))
  | succ k ih =>
    intro tq ht l6 f1
    have h5 := okp.h5
    have h8 := okp.h8
    have okx : okP (upd f0 (45 + 4 * bn + 0) (nI tq)) := okp.at (by omega) (cell_of (by omega))
    refine xg_iload (pc := 34) dX6_spot_34 rfl ?_
    refine xg_bipush (v := 48) (pc := 36) dX6_spot_36 (by decide) ?_
    refine xg_icmp_ge (pc := 38) (tgt := 108) dX6_spot_38 (by decide) (fun c_38 => absurd c_38 (nI_ge (b := 48) (by omega) (by omega))) (fun c_38 => ?_)
    refine xg_aload_n (pc := 41) dX6_spot_41 rfl ?_
    refine xg_get (pc := 42) dX6_spot_42 flX6_16 hp_0 rfl ?_
    refine xg_aload_n (pc := 45) dX6_spot_45 rfl ?_
    refine xg_get (pc := 46) dX6_spot_46 flX6_10 hp_0 rfl ?_
    refine xg_cvV (pc := 49) (h1 := hp (tri f0 (bcF f0 f1) f2) o mf wf q) (M' := mX1_become) dX6_spot_49 lkX6_188 mcX1_become (hp_lake1 ) rfl (ev_bec_10 okp.1.1) rfl rfl (Nat.le_of_ble_eq_true rfl) ?_
    generalize hg1 : bcF f0 f1 = g1
    have lg : lvE f0 g1 := hg1 ▸ bcF_lv okp.h8
    refine xg_aload_n (pc := 52) dX6_spot_52 rfl ?_
    refine xg_get (pc := 53) dX6_spot_53 flX6_16 hp_0 rfl ?_
    refine xg_get (pc := 56) dX6_spot_56 flX6_150 (hp_lake1 ) rfl ?_
    refine xg_iload_n (pc := 59) dX6_spot_59 rfl ?_
    refine xg_aald (pc := 60) (r := 12 + 16 * 1 + bn) bn dX6_spot_60 (hp_barr1 ) (by decide) rfl (by omega) (by decide) (if_pos (by omega)) ?_
    refine xg_iload (pc := 61) dX6_spot_61 rfl ?_
    refine xg_puti (pc := 63) (h' := hp (tri f0 (upd g1 (45 + 4 * bn + 0) (nI tq)) f2) o mf wf q) dX6_spot_63 flX6_154 (hp_boat1  (by omega)) (Nat.le_of_ble_eq_true rfl) (hs_b1  (c := 0) (by omega) (by decide)) ?_
    refine xg_aload_n (pc := 66) dX6_spot_66 rfl ?_
    refine xg_get (pc := 67) dX6_spot_67 flX6_16 hp_0 rfl ?_
    refine xg_iload_n (pc := 70) dX6_spot_70 rfl ?_
    refine xg_cvV (pc := 71) (h1 := hp (tri f0 (hsC nn (upd g1 (45 + 4 * bn + 0) (nI tq))) f2) o mf wf q) (M' := mX1_passHours) dX6_spot_71 lkX6_172 mcX1_passHours (hp_lake1 ) rfl (ev1_X1_passHours (n := nn) ((lg.u (by omega) (by omega)).okM okx.1) (by omega)) rfl rfl (Nat.le_of_ble_eq_true rfl) ?_
    refine xg_aload_n (pc := 74) dX6_spot_74 rfl ?_
    refine xg_get (pc := 75) dX6_spot_75 flX6_16 hp_0 rfl ?_
    refine xg_get (pc := 78) dX6_spot_78 flX6_150 (hp_lake1 ) rfl ?_
    refine xg_iload_n (pc := 81) dX6_spot_81 rfl ?_
    refine xg_aald (pc := 82) (r := 12 + 16 * 1 + bn) bn dX6_spot_82 (hp_barr1 ) (by decide) rfl (by omega) (by decide) (if_pos (by omega)) ?_
    refine xg_cvI (pc := 83) (h1 := hp (tri f0 (hsC nn (upd g1 (45 + 4 * bn + 0) (nI tq))) f2) o mf wf q) (x := (hsC nn (upd g1 (45 + 4 * bn + 0) (nI tq))) (45 + 4 * bn + 3) + (hsC nn (upd g1 (45 + 4 * bn + 0) (nI tq))) (45 + 4 * bn + 2)) (M' := mX0_worth) dX6_spot_83 lkX6_199 mcX0_worth (hp_boat1  (by omega)) rfl (ev1_X0_worth (j := bn) (by omega)) rfl rfl (Nat.le_of_ble_eq_true rfl) ?_
    refine xg_eq (show _ = (Gs f0 bn nn (45 + 4 * bn)) tq from wo_hsu (k := 45 + 4 * bn + 0) okx lg (by omega) (by omega) hbn) ?_
    refine xg_istore (pc := 86) (ls' := [some (.ref 0), some (.int (nI bn)), some (.int (nI nn)), some (.int ((amx (Gs f0 bn nn (45 + 4 * bn)) (-2147483648) (0) tq).2)), some (.int ((amx (Gs f0 bn nn (45 + 4 * bn)) (-2147483648) (0) tq).1)), some (.int (nI tq)), some (.int ((Gs f0 bn nn (45 + 4 * bn)) tq))]) dX6_spot_86 (by decide) rfl ?_
    refine xg_iload (pc := 88) dX6_spot_88 rfl ?_
    refine xg_iload (pc := 90) dX6_spot_90 rfl ?_
    refine xg_icmp_le (pc := 92) (tgt := 102) dX6_spot_92 (by decide) (fun c_92 => ?_) (fun c_92 => ?_)
    ·
      refine xg_iinc (pc := 102) (y := nI (tq + 1)) (ls' := [some (.ref 0), some (.int (nI bn)), some (.int (nI nn)), some (.int ((amx (Gs f0 bn nn (45 + 4 * bn)) (-2147483648) (0) tq).2)), some (.int ((amx (Gs f0 bn nn (45 + 4 * bn)) (-2147483648) (0) tq).1)), some (.int (nI (tq + 1))), some (.int ((Gs f0 bn nn (45 + 4 * bn)) tq))]) dX6_spot_102 rfl (xinc _) (by decide) rfl ?_
      refine xg_goto (pc := 105) (tgt := 34) dX6_spot_105 (by decide) ?_
      have e1 : amx (Gs f0 bn nn (45 + 4 * bn)) (-2147483648) (0) (tq + 1) = amx (Gs f0 bn nn (45 + 4 * bn)) (-2147483648) (0) tq := if_neg (Int32.not_lt.mpr c_92)
      have z := ih (tq + 1) (by omega)
      rw [e1] at z
      exact z _ _
    ·
      refine xg_iload (pc := 95) dX6_spot_95 rfl ?_
      refine xg_istore (pc := 97) (ls' := [some (.ref 0), some (.int (nI bn)), some (.int (nI nn)), some (.int ((amx (Gs f0 bn nn (45 + 4 * bn)) (-2147483648) (0) tq).2)), some (.int ((Gs f0 bn nn (45 + 4 * bn)) tq)), some (.int (nI tq)), some (.int ((Gs f0 bn nn (45 + 4 * bn)) tq))]) dX6_spot_97 (by decide) rfl ?_
      refine xg_iload (pc := 99) dX6_spot_99 rfl ?_
      refine xg_istore_n (pc := 101) (ls' := [some (.ref 0), some (.int (nI bn)), some (.int (nI nn)), some (.int (nI tq)), some (.int ((Gs f0 bn nn (45 + 4 * bn)) tq)), some (.int (nI tq)), some (.int ((Gs f0 bn nn (45 + 4 * bn)) tq))]) dX6_spot_101 (by decide) rfl ?_
      refine xg_iinc (pc := 102) (y := nI (tq + 1)) (ls' := [some (.ref 0), some (.int (nI bn)), some (.int (nI nn)), some (.int (nI tq)), some (.int ((Gs f0 bn nn (45 + 4 * bn)) tq)), some (.int (nI (tq + 1))), some (.int ((Gs f0 bn nn (45 + 4 * bn)) tq))]) dX6_spot_102 rfl (xinc _) (by decide) rfl ?_
      refine xg_goto (pc := 105) (tgt := 34) dX6_spot_105 (by decide) ?_
      have e1 : amx (Gs f0 bn nn (45 + 4 * bn)) (-2147483648) (0) (tq + 1) = ((Gs f0 bn nn (45 + 4 * bn)) tq, nI tq) := if_pos (Int32.not_le.mp c_92)
      have z := ih (tq + 1) (by omega)
      rw [e1] at z
      exact z _ _
set_option maxRecDepth 100000 in
set_option maxHeartbeats 4000000 in
theorem ev_X6_spot {b n : Int32} (okp : okP f0) : xEv X false (d + 7) 0 0 mX6_spot [.ref 0, .int b, .int n] (hp (tri f0 f1 f2) o mf wf q) (CQ f2 o mf wf q (sp_best f0 (amx (Gs f0 (ix b) (ix n) (45 + 4 * ix b)) (-2147483648) 0 48).2 b n (f0 4))) := by
  have ok := okp.1.1
  have h8 := ok.2.1
  have h5 := ok.2.2.2
  refine xEv.of (ls := [some (.ref 0), some (.int b), some (.int n), none, none, none, none]) mcX6_spot.1.2.2.2.2 (Nat.le_of_ble_eq_true rfl) rfl ?_
  refine xg_aload_n (pc := 0) dX6_spot_0 rfl ?_
  refine xg_iload_n (pc := 1) dX6_spot_1 rfl ?_
  refine xg_cvI (pc := 2) (h1 := hp (tri f0 f1 f2) o mf wf q) (x := if 0 ≤ b ∧ b < f0 4 then 1 else 0) (M' := mX6_isBoat) dX6_spot_2 lkX6_147 mcX6_isBoat hp_0 rfl (ev_X6_isBoat) rfl rfl (Nat.le_of_ble_eq_true rfl) ?_
  refine xg_bz (pc := 5) (tgt := 18) dX6_spot_5 (by decide) (fun c_5 => ?_) (fun c_5 => ?_)
  ·
    refine xg_aload_n (pc := 18) dX6_spot_18 rfl ?_
    refine xg_ldc (v := -1000000001) (pc := 19) dX6_spot_19 ccX6_64 ?_
    refine xg_cvI (pc := 21) (h1 := hp (tri f0 f1 f2) (o.1, upd o.2.1 0 (o.2.1 0 + 1), o.2.2.1, o.2.2.2.1, o.2.2.2.2.1, o.2.2.2.2.2.1, o.2.2.2.2.2.2.1, o.2.2.2.2.2.2.2.1, o.2.2.2.2.2.2.2.2.1, o.2.2.2.2.2.2.2.2.2.1, o.2.2.2.2.2.2.2.2.2.2) mf wf q) (x := -1000000001) (M' := mX6_finding) dX6_spot_21 lkX6_65 mcX6_finding hp_0 rfl (ev_X6_finding (j := 0) (by decide) (by decide)) rfl rfl (Nat.le_of_ble_eq_true rfl) ?_
    exact xg_iret (pc := 24) dX6_spot_24 rfl (cqR (j := (some 0)) (by unfold sp_best; refine (if_neg (by first | exact (fun q => c_5 q.1) | exact (fun q => c_15 q.2))).trans ?_; first | (with_reducible rfl) | (simp only [*, ix_0, ix_1, ix_2, ix_3, ix_4]; done) | (simp [*, ix_0, ix_1, ix_2, ix_3, ix_4]; done) | rfl | (simp_all [ix_0, ix_1, ix_2, ix_3, ix_4]; done)))
  ·
    refine xg_iload_n (pc := 8) dX6_spot_8 rfl ?_
    refine xg_iconst (v := 1) (pc := 9) dX6_spot_9 (by decide) ?_
    refine xg_bipush (v := 24) (pc := 10) dX6_spot_10 (by decide) ?_
    refine xg_csI (pc := 12) (h1 := hp (tri f0 f1 f2) o mf wf q) (x := if 1 ≤ n ∧ n ≤ 24 then 1 else 0) (M' := mX6_isWithin) dX6_spot_12 lkX6_53 mcX6_isWithin (ev_X6_isWithin) rfl rfl (Nat.le_of_ble_eq_true rfl) ?_
    refine xg_bnz (pc := 15) (tgt := 25) dX6_spot_15 (by decide) (fun c_15 => ?_) (fun c_15 => ?_)
    ·
      obtain ⟨bn, hbn, rfl⟩ := idxB ok c_5
      have ebn : ix (nI bn) = bn := nI_clamp (by omega)
      obtain ⟨nn, hnn, rfl⟩ := rng1 (n := 24) c_15 (by decide)
      have enn : ix (nI nn) = nn := nI_clamp (by omega)
      refine xg_iconst (v := 0) (pc := 25) dX6_spot_25 (by decide) ?_
      refine xg_istore_n (pc := 26) (ls' := [some (.ref 0), some (.int (nI bn)), some (.int (nI nn)), some (.int 0), none, none, none]) dX6_spot_26 (by decide) rfl ?_
      refine xg_ldc (v := -2147483648) (pc := 27) dX6_spot_27 ccX6_198 ?_
      refine xg_istore (pc := 29) (ls' := [some (.ref 0), some (.int (nI bn)), some (.int (nI nn)), some (.int 0), some (.int (-2147483648)), none, none]) dX6_spot_29 (by decide) rfl ?_
      refine xg_iconst (v := 0) (pc := 31) dX6_spot_31 (by decide) ?_
      refine xg_istore (pc := 32) (ls' := [some (.ref 0), some (.int (nI bn)), some (.int (nI nn)), some (.int 0), some (.int (-2147483648)), some (.int 0), none]) dX6_spot_32 (by decide) rfl ?_
      rw [show sp_best f0 (amx (Gs f0 (ix (nI bn)) (ix (nI nn)) (45 + 4 * ix (nI bn))) (-2147483648) 0 48).2 (nI bn) (nI nn) (f0 4) = ((amx (Gs f0 bn nn (45 + 4 * bn)) (-2147483648) 0 48).2, none, f0) from by unfold sp_best; rw [if_pos ⟨c_5, c_15⟩, ebn, enn]]
      exact lp_X6_spot okp hbn (by omega) 48 0 rfl _ _
    ·
      refine xg_aload_n (pc := 18) dX6_spot_18 rfl ?_
      refine xg_ldc (v := -1000000001) (pc := 19) dX6_spot_19 ccX6_64 ?_
      refine xg_cvI (pc := 21) (h1 := hp (tri f0 f1 f2) (o.1, upd o.2.1 0 (o.2.1 0 + 1), o.2.2.1, o.2.2.2.1, o.2.2.2.2.1, o.2.2.2.2.2.1, o.2.2.2.2.2.2.1, o.2.2.2.2.2.2.2.1, o.2.2.2.2.2.2.2.2.1, o.2.2.2.2.2.2.2.2.2.1, o.2.2.2.2.2.2.2.2.2.2) mf wf q) (x := -1000000001) (M' := mX6_finding) dX6_spot_21 lkX6_65 mcX6_finding hp_0 rfl (ev_X6_finding (j := 0) (by decide) (by decide)) rfl rfl (Nat.le_of_ble_eq_true rfl) ?_
      exact xg_iret (pc := 24) dX6_spot_24 rfl (cqR (j := (some 0)) (by unfold sp_best; refine (if_neg (by first | exact (fun q => c_5 q.1) | exact (fun q => c_15 q.2))).trans ?_; first | (with_reducible rfl) | (simp only [*, ix_0, ix_1, ix_2, ix_3, ix_4]; done) | (simp [*, ix_0, ix_1, ix_2, ix_3, ix_4]; done) | rfl | (simp_all [ix_0, ix_1, ix_2, ix_3, ix_4]; done)))
set_option maxRecDepth 100000 in
theorem lp_X6_net {bn nn : Nat} (okp : okP f0) (hbn : bn < nB f0) (hnn : nn < 2 ^ 31) : ∀ (k tq : Nat), tq + k = 100 → ∀ (l6 : Option Value), ∀ (f1 : Nat → Int32), xGo X false (d + 7) 0 0 mX6_net 34 [some (.ref 0), some (.int (nI bn)), some (.int (nI nn)), some (.int ((amx (Gs f0 bn nn (45 + 4 * bn + 1)) (-2147483648) (0) tq).2)), some (.int ((amx (Gs f0 bn nn (45 + 4 * bn + 1)) (-2147483648) (0) tq).1)), some (.int (nI tq)), l6] [] (hp (tri f0 f1 f2) o mf wf q) (CQ f2 o mf wf q ((amx (Gs f0 bn nn (45 + 4 * bn + 1)) (-2147483648) 0 100).2, none, f0)) := by
  intro k
  induction k with
  | zero =>
    intro tq ht l6 f1
    have h5 := okp.h5
    have h8 := okp.h8
    have etq : tq = 100 := by omega
    subst etq
    refine xg_iload (pc := 34) dX6_net_34 rfl ?_
    refine xg_bipush (v := 99) (pc := 36) dX6_net_36 (by decide) ?_
    refine xg_icmp_gt (pc := 38) (tgt := 108) dX6_net_38 (by decide) (fun c_38 => ?_) (fun c_38 => absurd c_38 (by decide))
    refine xg_iload_n (pc := 108) dX6_net_108 rfl ?_
    exact xg_iret (pc := 109) dX6_net_109 rfl (cqR (j := none) (by rfl))
  | succ k ih =>
    intro tq ht l6 f1
    have h5 := okp.h5
    have h8 := okp.h8
    have okx : okP (upd f0 (45 + 4 * bn + 1) (nI tq)) := okp.ne (by omega) (rg_of (m := 99) (by omega) (by omega))
    refine xg_iload (pc := 34) dX6_net_34 rfl ?_
    refine xg_bipush (v := 99) (pc := 36) dX6_net_36 (by decide) ?_
    refine xg_icmp_gt (pc := 38) (tgt := 108) dX6_net_38 (by decide) (fun c_38 => absurd c_38 (nI_nlt (a := 99) (by omega) (by omega))) (fun c_38 => ?_)
    refine xg_aload_n (pc := 41) dX6_net_41 rfl ?_
    refine xg_get (pc := 42) dX6_net_42 flX6_16 hp_0 rfl ?_
    refine xg_aload_n (pc := 45) dX6_net_45 rfl ?_
    refine xg_get (pc := 46) dX6_net_46 flX6_10 hp_0 rfl ?_
    refine xg_cvV (pc := 49) (h1 := hp (tri f0 (bcF f0 f1) f2) o mf wf q) (M' := mX1_become) dX6_net_49 lkX6_188 mcX1_become (hp_lake1 ) rfl (ev_bec_10 okp.1.1) rfl rfl (Nat.le_of_ble_eq_true rfl) ?_
    generalize hg1 : bcF f0 f1 = g1
    have lg : lvE f0 g1 := hg1 ▸ bcF_lv okp.h8
    refine xg_aload_n (pc := 52) dX6_net_52 rfl ?_
    refine xg_get (pc := 53) dX6_net_53 flX6_16 hp_0 rfl ?_
    refine xg_get (pc := 56) dX6_net_56 flX6_150 (hp_lake1 ) rfl ?_
    refine xg_iload_n (pc := 59) dX6_net_59 rfl ?_
    refine xg_aald (pc := 60) (r := 12 + 16 * 1 + bn) bn dX6_net_60 (hp_barr1 ) (by decide) rfl (by omega) (by decide) (if_pos (by omega)) ?_
    refine xg_iload (pc := 61) dX6_net_61 rfl ?_
    refine xg_puti (pc := 63) (h' := hp (tri f0 (upd g1 (45 + 4 * bn + 1) (nI tq)) f2) o mf wf q) dX6_net_63 flX6_159 (hp_boat1  (by omega)) (Nat.le_of_ble_eq_true rfl) (hs_b1  (c := 1) (by omega) (by decide)) ?_
    refine xg_aload_n (pc := 66) dX6_net_66 rfl ?_
    refine xg_get (pc := 67) dX6_net_67 flX6_16 hp_0 rfl ?_
    refine xg_iload_n (pc := 70) dX6_net_70 rfl ?_
    refine xg_cvV (pc := 71) (h1 := hp (tri f0 (hsC nn (upd g1 (45 + 4 * bn + 1) (nI tq))) f2) o mf wf q) (M' := mX1_passHours) dX6_net_71 lkX6_172 mcX1_passHours (hp_lake1 ) rfl (ev1_X1_passHours (n := nn) ((lg.u (by omega) (by omega)).okM okx.1) (by omega)) rfl rfl (Nat.le_of_ble_eq_true rfl) ?_
    refine xg_aload_n (pc := 74) dX6_net_74 rfl ?_
    refine xg_get (pc := 75) dX6_net_75 flX6_16 hp_0 rfl ?_
    refine xg_get (pc := 78) dX6_net_78 flX6_150 (hp_lake1 ) rfl ?_
    refine xg_iload_n (pc := 81) dX6_net_81 rfl ?_
    refine xg_aald (pc := 82) (r := 12 + 16 * 1 + bn) bn dX6_net_82 (hp_barr1 ) (by decide) rfl (by omega) (by decide) (if_pos (by omega)) ?_
    refine xg_cvI (pc := 83) (h1 := hp (tri f0 (hsC nn (upd g1 (45 + 4 * bn + 1) (nI tq))) f2) o mf wf q) (x := (hsC nn (upd g1 (45 + 4 * bn + 1) (nI tq))) (45 + 4 * bn + 3) + (hsC nn (upd g1 (45 + 4 * bn + 1) (nI tq))) (45 + 4 * bn + 2)) (M' := mX0_worth) dX6_net_83 lkX6_199 mcX0_worth (hp_boat1  (by omega)) rfl (ev1_X0_worth (j := bn) (by omega)) rfl rfl (Nat.le_of_ble_eq_true rfl) ?_
    refine xg_eq (show _ = (Gs f0 bn nn (45 + 4 * bn + 1)) tq from wo_hsu (k := 45 + 4 * bn + 1) okx lg (by omega) (by omega) hbn) ?_
    refine xg_istore (pc := 86) (ls' := [some (.ref 0), some (.int (nI bn)), some (.int (nI nn)), some (.int ((amx (Gs f0 bn nn (45 + 4 * bn + 1)) (-2147483648) (0) tq).2)), some (.int ((amx (Gs f0 bn nn (45 + 4 * bn + 1)) (-2147483648) (0) tq).1)), some (.int (nI tq)), some (.int ((Gs f0 bn nn (45 + 4 * bn + 1)) tq))]) dX6_net_86 (by decide) rfl ?_
    refine xg_iload (pc := 88) dX6_net_88 rfl ?_
    refine xg_iload (pc := 90) dX6_net_90 rfl ?_
    refine xg_icmp_le (pc := 92) (tgt := 102) dX6_net_92 (by decide) (fun c_92 => ?_) (fun c_92 => ?_)
    ·
      refine xg_iinc (pc := 102) (y := nI (tq + 1)) (ls' := [some (.ref 0), some (.int (nI bn)), some (.int (nI nn)), some (.int ((amx (Gs f0 bn nn (45 + 4 * bn + 1)) (-2147483648) (0) tq).2)), some (.int ((amx (Gs f0 bn nn (45 + 4 * bn + 1)) (-2147483648) (0) tq).1)), some (.int (nI (tq + 1))), some (.int ((Gs f0 bn nn (45 + 4 * bn + 1)) tq))]) dX6_net_102 rfl (xinc _) (by decide) rfl ?_
      refine xg_goto (pc := 105) (tgt := 34) dX6_net_105 (by decide) ?_
      have e1 : amx (Gs f0 bn nn (45 + 4 * bn + 1)) (-2147483648) (0) (tq + 1) = amx (Gs f0 bn nn (45 + 4 * bn + 1)) (-2147483648) (0) tq := if_neg (Int32.not_lt.mpr c_92)
      have z := ih (tq + 1) (by omega)
      rw [e1] at z
      exact z _ _
    ·
      refine xg_iload (pc := 95) dX6_net_95 rfl ?_
      refine xg_istore (pc := 97) (ls' := [some (.ref 0), some (.int (nI bn)), some (.int (nI nn)), some (.int ((amx (Gs f0 bn nn (45 + 4 * bn + 1)) (-2147483648) (0) tq).2)), some (.int ((Gs f0 bn nn (45 + 4 * bn + 1)) tq)), some (.int (nI tq)), some (.int ((Gs f0 bn nn (45 + 4 * bn + 1)) tq))]) dX6_net_97 (by decide) rfl ?_
      refine xg_iload (pc := 99) dX6_net_99 rfl ?_
      refine xg_istore_n (pc := 101) (ls' := [some (.ref 0), some (.int (nI bn)), some (.int (nI nn)), some (.int (nI tq)), some (.int ((Gs f0 bn nn (45 + 4 * bn + 1)) tq)), some (.int (nI tq)), some (.int ((Gs f0 bn nn (45 + 4 * bn + 1)) tq))]) dX6_net_101 (by decide) rfl ?_
      refine xg_iinc (pc := 102) (y := nI (tq + 1)) (ls' := [some (.ref 0), some (.int (nI bn)), some (.int (nI nn)), some (.int (nI tq)), some (.int ((Gs f0 bn nn (45 + 4 * bn + 1)) tq)), some (.int (nI (tq + 1))), some (.int ((Gs f0 bn nn (45 + 4 * bn + 1)) tq))]) dX6_net_102 rfl (xinc _) (by decide) rfl ?_
      refine xg_goto (pc := 105) (tgt := 34) dX6_net_105 (by decide) ?_
      have e1 : amx (Gs f0 bn nn (45 + 4 * bn + 1)) (-2147483648) (0) (tq + 1) = ((Gs f0 bn nn (45 + 4 * bn + 1)) tq, nI tq) := if_pos (Int32.not_le.mp c_92)
      have z := ih (tq + 1) (by omega)
      rw [e1] at z
      exact z _ _
set_option maxRecDepth 100000 in
set_option maxHeartbeats 4000000 in
theorem ev_X6_net {b n : Int32} (okp : okP f0) : xEv X false (d + 7) 0 0 mX6_net [.ref 0, .int b, .int n] (hp (tri f0 f1 f2) o mf wf q) (CQ f2 o mf wf q (sp_best f0 (amx (Gs f0 (ix b) (ix n) (45 + 4 * ix b + 1)) (-2147483648) 0 100).2 b n (f0 4))) := by
  have ok := okp.1.1
  have h8 := ok.2.1
  have h5 := ok.2.2.2
  refine xEv.of (ls := [some (.ref 0), some (.int b), some (.int n), none, none, none, none]) mcX6_net.1.2.2.2.2 (Nat.le_of_ble_eq_true rfl) rfl ?_
  refine xg_aload_n (pc := 0) dX6_net_0 rfl ?_
  refine xg_iload_n (pc := 1) dX6_net_1 rfl ?_
  refine xg_cvI (pc := 2) (h1 := hp (tri f0 f1 f2) o mf wf q) (x := if 0 ≤ b ∧ b < f0 4 then 1 else 0) (M' := mX6_isBoat) dX6_net_2 lkX6_147 mcX6_isBoat hp_0 rfl (ev_X6_isBoat) rfl rfl (Nat.le_of_ble_eq_true rfl) ?_
  refine xg_bz (pc := 5) (tgt := 18) dX6_net_5 (by decide) (fun c_5 => ?_) (fun c_5 => ?_)
  ·
    refine xg_aload_n (pc := 18) dX6_net_18 rfl ?_
    refine xg_ldc (v := -1000000001) (pc := 19) dX6_net_19 ccX6_64 ?_
    refine xg_cvI (pc := 21) (h1 := hp (tri f0 f1 f2) (o.1, upd o.2.1 0 (o.2.1 0 + 1), o.2.2.1, o.2.2.2.1, o.2.2.2.2.1, o.2.2.2.2.2.1, o.2.2.2.2.2.2.1, o.2.2.2.2.2.2.2.1, o.2.2.2.2.2.2.2.2.1, o.2.2.2.2.2.2.2.2.2.1, o.2.2.2.2.2.2.2.2.2.2) mf wf q) (x := -1000000001) (M' := mX6_finding) dX6_net_21 lkX6_65 mcX6_finding hp_0 rfl (ev_X6_finding (j := 0) (by decide) (by decide)) rfl rfl (Nat.le_of_ble_eq_true rfl) ?_
    exact xg_iret (pc := 24) dX6_net_24 rfl (cqR (j := (some 0)) (by unfold sp_best; refine (if_neg (by first | exact (fun q => c_5 q.1) | exact (fun q => c_15 q.2))).trans ?_; first | (with_reducible rfl) | (simp only [*, ix_0, ix_1, ix_2, ix_3, ix_4]; done) | (simp [*, ix_0, ix_1, ix_2, ix_3, ix_4]; done) | rfl | (simp_all [ix_0, ix_1, ix_2, ix_3, ix_4]; done)))
  ·
    refine xg_iload_n (pc := 8) dX6_net_8 rfl ?_
    refine xg_iconst (v := 1) (pc := 9) dX6_net_9 (by decide) ?_
    refine xg_bipush (v := 24) (pc := 10) dX6_net_10 (by decide) ?_
    refine xg_csI (pc := 12) (h1 := hp (tri f0 f1 f2) o mf wf q) (x := if 1 ≤ n ∧ n ≤ 24 then 1 else 0) (M' := mX6_isWithin) dX6_net_12 lkX6_53 mcX6_isWithin (ev_X6_isWithin) rfl rfl (Nat.le_of_ble_eq_true rfl) ?_
    refine xg_bnz (pc := 15) (tgt := 25) dX6_net_15 (by decide) (fun c_15 => ?_) (fun c_15 => ?_)
    ·
      obtain ⟨bn, hbn, rfl⟩ := idxB ok c_5
      have ebn : ix (nI bn) = bn := nI_clamp (by omega)
      obtain ⟨nn, hnn, rfl⟩ := rng1 (n := 24) c_15 (by decide)
      have enn : ix (nI nn) = nn := nI_clamp (by omega)
      refine xg_iconst (v := 0) (pc := 25) dX6_net_25 (by decide) ?_
      refine xg_istore_n (pc := 26) (ls' := [some (.ref 0), some (.int (nI bn)), some (.int (nI nn)), some (.int 0), none, none, none]) dX6_net_26 (by decide) rfl ?_
      refine xg_ldc (v := -2147483648) (pc := 27) dX6_net_27 ccX6_198 ?_
      refine xg_istore (pc := 29) (ls' := [some (.ref 0), some (.int (nI bn)), some (.int (nI nn)), some (.int 0), some (.int (-2147483648)), none, none]) dX6_net_29 (by decide) rfl ?_
      refine xg_iconst (v := 0) (pc := 31) dX6_net_31 (by decide) ?_
      refine xg_istore (pc := 32) (ls' := [some (.ref 0), some (.int (nI bn)), some (.int (nI nn)), some (.int 0), some (.int (-2147483648)), some (.int 0), none]) dX6_net_32 (by decide) rfl ?_
      rw [show sp_best f0 (amx (Gs f0 (ix (nI bn)) (ix (nI nn)) (45 + 4 * ix (nI bn) + 1)) (-2147483648) 0 100).2 (nI bn) (nI nn) (f0 4) = ((amx (Gs f0 bn nn (45 + 4 * bn + 1)) (-2147483648) 0 100).2, none, f0) from by unfold sp_best; rw [if_pos ⟨c_5, c_15⟩, ebn, enn]]
      exact lp_X6_net okp hbn (by omega) 100 0 rfl _ _
    ·
      refine xg_aload_n (pc := 18) dX6_net_18 rfl ?_
      refine xg_ldc (v := -1000000001) (pc := 19) dX6_net_19 ccX6_64 ?_
      refine xg_cvI (pc := 21) (h1 := hp (tri f0 f1 f2) (o.1, upd o.2.1 0 (o.2.1 0 + 1), o.2.2.1, o.2.2.2.1, o.2.2.2.2.1, o.2.2.2.2.2.1, o.2.2.2.2.2.2.1, o.2.2.2.2.2.2.2.1, o.2.2.2.2.2.2.2.2.1, o.2.2.2.2.2.2.2.2.2.1, o.2.2.2.2.2.2.2.2.2.2) mf wf q) (x := -1000000001) (M' := mX6_finding) dX6_net_21 lkX6_65 mcX6_finding hp_0 rfl (ev_X6_finding (j := 0) (by decide) (by decide)) rfl rfl (Nat.le_of_ble_eq_true rfl) ?_
      exact xg_iret (pc := 24) dX6_net_24 rfl (cqR (j := (some 0)) (by unfold sp_best; refine (if_neg (by first | exact (fun q => c_5 q.1) | exact (fun q => c_15 q.2))).trans ?_; first | (with_reducible rfl) | (simp only [*, ix_0, ix_1, ix_2, ix_3, ix_4]; done) | (simp [*, ix_0, ix_1, ix_2, ix_3, ix_4]; done) | rfl | (simp_all [ix_0, ix_1, ix_2, ix_3, ix_4]; done)))
set_option maxRecDepth 100000 in
theorem lp_X6_kind {tn nn : Nat} (okp : okP f0) (htn : tn < nT f0) (hnn : nn < 2 ^ 31) : ∀ (k tq : Nat), tq + k = 6 → ∀ (l6 : Option Value), ∀ (f1 : Nat → Int32), xGo X false (d + 7) 0 0 mX6_kind 34 [some (.ref 0), some (.int (nI tn)), some (.int (nI nn)), some (.int ((amx (Ga f0 nn (5 + 5 * tn)) (-2147483648) (0) tq).2)), some (.int ((amx (Ga f0 nn (5 + 5 * tn)) (-2147483648) (0) tq).1)), some (.int (nI tq)), l6] [] (hp (tri f0 f1 f2) o mf wf q) (CQ f2 o mf wf q ((amx (Ga f0 nn (5 + 5 * tn)) (-2147483648) 0 6).2, none, f0)) := by
  intro k
  induction k with
  | zero =>
    intro tq ht l6 f1
    have h5 := okp.h5
    have h8 := okp.h8
    have etq : tq = 6 := by omega
    subst etq
    refine xg_iload (pc := 34) dX6_kind_34 rfl ?_
    refine xg_bipush (v := 6) (pc := 36) dX6_kind_36 (by decide) ?_
    refine xg_icmp_ge (pc := 38) (tgt := 111) dX6_kind_38 (by decide) (fun c_38 => ?_) (fun c_38 => absurd c_38 (by decide))
    refine xg_iload_n (pc := 111) dX6_kind_111 rfl ?_
    exact xg_iret (pc := 112) dX6_kind_112 rfl (cqR (j := none) (by rfl))
  | succ k ih =>
    intro tq ht l6 f1
    have h5 := okp.h5
    have h8 := okp.h8
    have okx : okP (upd f0 (5 + 5 * tn + 0) (nI tq)) := okp.ki (by omega) (rg_of (m := 5) (by omega) (by omega))
    refine xg_iload (pc := 34) dX6_kind_34 rfl ?_
    refine xg_bipush (v := 6) (pc := 36) dX6_kind_36 (by decide) ?_
    refine xg_icmp_ge (pc := 38) (tgt := 111) dX6_kind_38 (by decide) (fun c_38 => absurd c_38 (nI_ge (b := 6) (by omega) (by omega))) (fun c_38 => ?_)
    refine xg_aload_n (pc := 41) dX6_kind_41 rfl ?_
    refine xg_get (pc := 42) dX6_kind_42 flX6_16 hp_0 rfl ?_
    refine xg_aload_n (pc := 45) dX6_kind_45 rfl ?_
    refine xg_get (pc := 46) dX6_kind_46 flX6_10 hp_0 rfl ?_
    refine xg_cvV (pc := 49) (h1 := hp (tri f0 (bcF f0 f1) f2) o mf wf q) (M' := mX1_become) dX6_kind_49 lkX6_188 mcX1_become (hp_lake1 ) rfl (ev_bec_10 okp.1.1) rfl rfl (Nat.le_of_ble_eq_true rfl) ?_
    generalize hg1 : bcF f0 f1 = g1
    have lg : lvE f0 g1 := hg1 ▸ bcF_lv okp.h8
    refine xg_aload_n (pc := 52) dX6_kind_52 rfl ?_
    refine xg_get (pc := 53) dX6_kind_53 flX6_16 hp_0 rfl ?_
    refine xg_get (pc := 56) dX6_kind_56 flX6_102 (hp_lake1 ) rfl ?_
    refine xg_iload_n (pc := 59) dX6_kind_59 rfl ?_
    refine xg_aald (pc := 60) (r := 3 + 16 * 1 + tn) tn dX6_kind_60 (hp_tarr1 ) (by decide) rfl (by omega) (by decide) (if_pos (by omega)) ?_
    refine xg_iload (pc := 61) dX6_kind_61 rfl ?_
    refine xg_puti (pc := 63) (h' := hp (tri f0 (upd g1 (5 + 5 * tn + 0) (nI tq)) f2) o mf wf q) dX6_kind_63 flX6_106 (hp_thing1  (by omega)) (Nat.le_of_ble_eq_true rfl) (hs_t1  (c := 0) (by omega) (by decide)) ?_
    refine xg_aload_n (pc := 66) dX6_kind_66 rfl ?_
    refine xg_get (pc := 67) dX6_kind_67 flX6_16 hp_0 rfl ?_
    refine xg_iload_n (pc := 70) dX6_kind_70 rfl ?_
    refine xg_cvV (pc := 71) (h1 := hp (tri f0 (hsC nn (upd g1 (5 + 5 * tn + 0) (nI tq))) f2) o mf wf q) (M' := mX1_passHours) dX6_kind_71 lkX6_172 mcX1_passHours (hp_lake1 ) rfl (ev1_X1_passHours (n := nn) ((lg.u (by omega) (by omega)).okM okx.1) (by omega)) rfl rfl (Nat.le_of_ble_eq_true rfl) ?_
    refine xg_aload_n (pc := 74) dX6_kind_74 rfl ?_
    refine xg_get (pc := 75) dX6_kind_75 flX6_16 hp_0 rfl ?_
    refine xg_cvI (pc := 78) (h1 := hp (tri f0 (hsC nn (upd g1 (5 + 5 * tn + 0) (nI tq))) f2) o mf wf q) (x := sumI (sB (hsC nn (upd g1 (5 + 5 * tn + 0) (nI tq))) 3) (nB (hsC nn (upd g1 (5 + 5 * tn + 0) (nI tq))))) (M' := mX1_coinsOfAll) dX6_kind_78 lkX6_176 mcX1_coinsOfAll (hp_lake1 ) rfl (ev1_X1_coinsOfAll (hsC_ok ((lg.u (by omega) (by omega)).okM okx.1) nn).1) rfl rfl (Nat.le_of_ble_eq_true rfl) ?_
    refine xg_aload_n (pc := 81) dX6_kind_81 rfl ?_
    refine xg_get (pc := 82) dX6_kind_82 flX6_16 hp_0 rfl ?_
    refine xg_cvI (pc := 85) (h1 := hp (tri f0 (hsC nn (upd g1 (5 + 5 * tn + 0) (nI tq))) f2) o mf wf q) (x := sumI (sB (hsC nn (upd g1 (5 + 5 * tn + 0) (nI tq))) 2) (nB (hsC nn (upd g1 (5 + 5 * tn + 0) (nI tq))))) (M' := mX1_holdOfAll) dX6_kind_85 lkX6_202 mcX1_holdOfAll (hp_lake1 ) rfl (ev1_X1_holdOfAll (hsC_ok ((lg.u (by omega) (by omega)).okM okx.1) nn).1) rfl rfl (Nat.le_of_ble_eq_true rfl) ?_
    refine xg_iadd (pc := 88) dX6_kind_88 ?_
    refine xg_eq (show _ = (Ga f0 nn (5 + 5 * tn)) tq from woA_hsu (k := 5 + 5 * tn + 0) okx lg (by omega) (by omega)) ?_
    refine xg_istore (pc := 89) (ls' := [some (.ref 0), some (.int (nI tn)), some (.int (nI nn)), some (.int ((amx (Ga f0 nn (5 + 5 * tn)) (-2147483648) (0) tq).2)), some (.int ((amx (Ga f0 nn (5 + 5 * tn)) (-2147483648) (0) tq).1)), some (.int (nI tq)), some (.int ((Ga f0 nn (5 + 5 * tn)) tq))]) dX6_kind_89 (by decide) rfl ?_
    refine xg_iload (pc := 91) dX6_kind_91 rfl ?_
    refine xg_iload (pc := 93) dX6_kind_93 rfl ?_
    refine xg_icmp_le (pc := 95) (tgt := 105) dX6_kind_95 (by decide) (fun c_95 => ?_) (fun c_95 => ?_)
    ·
      refine xg_iinc (pc := 105) (y := nI (tq + 1)) (ls' := [some (.ref 0), some (.int (nI tn)), some (.int (nI nn)), some (.int ((amx (Ga f0 nn (5 + 5 * tn)) (-2147483648) (0) tq).2)), some (.int ((amx (Ga f0 nn (5 + 5 * tn)) (-2147483648) (0) tq).1)), some (.int (nI (tq + 1))), some (.int ((Ga f0 nn (5 + 5 * tn)) tq))]) dX6_kind_105 rfl (xinc _) (by decide) rfl ?_
      refine xg_goto (pc := 108) (tgt := 34) dX6_kind_108 (by decide) ?_
      have e1 : amx (Ga f0 nn (5 + 5 * tn)) (-2147483648) (0) (tq + 1) = amx (Ga f0 nn (5 + 5 * tn)) (-2147483648) (0) tq := if_neg (Int32.not_lt.mpr c_95)
      have z := ih (tq + 1) (by omega)
      rw [e1] at z
      exact z _ _
    ·
      refine xg_iload (pc := 98) dX6_kind_98 rfl ?_
      refine xg_istore (pc := 100) (ls' := [some (.ref 0), some (.int (nI tn)), some (.int (nI nn)), some (.int ((amx (Ga f0 nn (5 + 5 * tn)) (-2147483648) (0) tq).2)), some (.int ((Ga f0 nn (5 + 5 * tn)) tq)), some (.int (nI tq)), some (.int ((Ga f0 nn (5 + 5 * tn)) tq))]) dX6_kind_100 (by decide) rfl ?_
      refine xg_iload (pc := 102) dX6_kind_102 rfl ?_
      refine xg_istore_n (pc := 104) (ls' := [some (.ref 0), some (.int (nI tn)), some (.int (nI nn)), some (.int (nI tq)), some (.int ((Ga f0 nn (5 + 5 * tn)) tq)), some (.int (nI tq)), some (.int ((Ga f0 nn (5 + 5 * tn)) tq))]) dX6_kind_104 (by decide) rfl ?_
      refine xg_iinc (pc := 105) (y := nI (tq + 1)) (ls' := [some (.ref 0), some (.int (nI tn)), some (.int (nI nn)), some (.int (nI tq)), some (.int ((Ga f0 nn (5 + 5 * tn)) tq)), some (.int (nI (tq + 1))), some (.int ((Ga f0 nn (5 + 5 * tn)) tq))]) dX6_kind_105 rfl (xinc _) (by decide) rfl ?_
      refine xg_goto (pc := 108) (tgt := 34) dX6_kind_108 (by decide) ?_
      have e1 : amx (Ga f0 nn (5 + 5 * tn)) (-2147483648) (0) (tq + 1) = ((Ga f0 nn (5 + 5 * tn)) tq, nI tq) := if_pos (Int32.not_le.mp c_95)
      have z := ih (tq + 1) (by omega)
      rw [e1] at z
      exact z _ _
set_option maxRecDepth 100000 in
set_option maxHeartbeats 4000000 in
theorem ev_X6_kind {t n : Int32} (okp : okP f0) : xEv X false (d + 7) 0 0 mX6_kind [.ref 0, .int t, .int n] (hp (tri f0 f1 f2) o mf wf q) (CQ f2 o mf wf q (sp_best f0 (amx (Ga f0 (ix n) (5 + 5 * ix t)) (-2147483648) 0 6).2 t n (f0 3))) := by
  have ok := okp.1.1
  have h8 := ok.2.1
  have h5 := ok.2.2.2
  refine xEv.of (ls := [some (.ref 0), some (.int t), some (.int n), none, none, none, none]) mcX6_kind.1.2.2.2.2 (Nat.le_of_ble_eq_true rfl) rfl ?_
  refine xg_aload_n (pc := 0) dX6_kind_0 rfl ?_
  refine xg_iload_n (pc := 1) dX6_kind_1 rfl ?_
  refine xg_cvI (pc := 2) (h1 := hp (tri f0 f1 f2) o mf wf q) (x := if 0 ≤ t ∧ t < f0 3 then 1 else 0) (M' := mX6_isThing) dX6_kind_2 lkX6_99 mcX6_isThing hp_0 rfl (ev_X6_isThing) rfl rfl (Nat.le_of_ble_eq_true rfl) ?_
  refine xg_bz (pc := 5) (tgt := 18) dX6_kind_5 (by decide) (fun c_5 => ?_) (fun c_5 => ?_)
  ·
    refine xg_aload_n (pc := 18) dX6_kind_18 rfl ?_
    refine xg_ldc (v := -1000000001) (pc := 19) dX6_kind_19 ccX6_64 ?_
    refine xg_cvI (pc := 21) (h1 := hp (tri f0 f1 f2) (o.1, upd o.2.1 0 (o.2.1 0 + 1), o.2.2.1, o.2.2.2.1, o.2.2.2.2.1, o.2.2.2.2.2.1, o.2.2.2.2.2.2.1, o.2.2.2.2.2.2.2.1, o.2.2.2.2.2.2.2.2.1, o.2.2.2.2.2.2.2.2.2.1, o.2.2.2.2.2.2.2.2.2.2) mf wf q) (x := -1000000001) (M' := mX6_finding) dX6_kind_21 lkX6_65 mcX6_finding hp_0 rfl (ev_X6_finding (j := 0) (by decide) (by decide)) rfl rfl (Nat.le_of_ble_eq_true rfl) ?_
    exact xg_iret (pc := 24) dX6_kind_24 rfl (cqR (j := (some 0)) (by unfold sp_best; refine (if_neg (by first | exact (fun q => c_5 q.1) | exact (fun q => c_15 q.2))).trans ?_; first | (with_reducible rfl) | (simp only [*, ix_0, ix_1, ix_2, ix_3, ix_4]; done) | (simp [*, ix_0, ix_1, ix_2, ix_3, ix_4]; done) | rfl | (simp_all [ix_0, ix_1, ix_2, ix_3, ix_4]; done)))
  ·
    refine xg_iload_n (pc := 8) dX6_kind_8 rfl ?_
    refine xg_iconst (v := 1) (pc := 9) dX6_kind_9 (by decide) ?_
    refine xg_bipush (v := 24) (pc := 10) dX6_kind_10 (by decide) ?_
    refine xg_csI (pc := 12) (h1 := hp (tri f0 f1 f2) o mf wf q) (x := if 1 ≤ n ∧ n ≤ 24 then 1 else 0) (M' := mX6_isWithin) dX6_kind_12 lkX6_53 mcX6_isWithin (ev_X6_isWithin) rfl rfl (Nat.le_of_ble_eq_true rfl) ?_
    refine xg_bnz (pc := 15) (tgt := 25) dX6_kind_15 (by decide) (fun c_15 => ?_) (fun c_15 => ?_)
    ·
      obtain ⟨tn, htn, rfl⟩ := idxT ok c_5
      have etn : ix (nI tn) = tn := nI_clamp (by omega)
      obtain ⟨nn, hnn, rfl⟩ := rng1 (n := 24) c_15 (by decide)
      have enn : ix (nI nn) = nn := nI_clamp (by omega)
      refine xg_iconst (v := 0) (pc := 25) dX6_kind_25 (by decide) ?_
      refine xg_istore_n (pc := 26) (ls' := [some (.ref 0), some (.int (nI tn)), some (.int (nI nn)), some (.int 0), none, none, none]) dX6_kind_26 (by decide) rfl ?_
      refine xg_ldc (v := -2147483648) (pc := 27) dX6_kind_27 ccX6_198 ?_
      refine xg_istore (pc := 29) (ls' := [some (.ref 0), some (.int (nI tn)), some (.int (nI nn)), some (.int 0), some (.int (-2147483648)), none, none]) dX6_kind_29 (by decide) rfl ?_
      refine xg_iconst (v := 0) (pc := 31) dX6_kind_31 (by decide) ?_
      refine xg_istore (pc := 32) (ls' := [some (.ref 0), some (.int (nI tn)), some (.int (nI nn)), some (.int 0), some (.int (-2147483648)), some (.int 0), none]) dX6_kind_32 (by decide) rfl ?_
      rw [show sp_best f0 (amx (Ga f0 (ix (nI nn)) (5 + 5 * ix (nI tn))) (-2147483648) 0 6).2 (nI tn) (nI nn) (f0 3) = ((amx (Ga f0 nn (5 + 5 * tn)) (-2147483648) 0 6).2, none, f0) from by unfold sp_best; rw [if_pos ⟨c_5, c_15⟩, etn, enn]]
      exact lp_X6_kind okp htn (by omega) 6 0 rfl _ _
    ·
      refine xg_aload_n (pc := 18) dX6_kind_18 rfl ?_
      refine xg_ldc (v := -1000000001) (pc := 19) dX6_kind_19 ccX6_64 ?_
      refine xg_cvI (pc := 21) (h1 := hp (tri f0 f1 f2) (o.1, upd o.2.1 0 (o.2.1 0 + 1), o.2.2.1, o.2.2.2.1, o.2.2.2.2.1, o.2.2.2.2.2.1, o.2.2.2.2.2.2.1, o.2.2.2.2.2.2.2.1, o.2.2.2.2.2.2.2.2.1, o.2.2.2.2.2.2.2.2.2.1, o.2.2.2.2.2.2.2.2.2.2) mf wf q) (x := -1000000001) (M' := mX6_finding) dX6_kind_21 lkX6_65 mcX6_finding hp_0 rfl (ev_X6_finding (j := 0) (by decide) (by decide)) rfl rfl (Nat.le_of_ble_eq_true rfl) ?_
      exact xg_iret (pc := 24) dX6_kind_24 rfl (cqR (j := (some 0)) (by unfold sp_best; refine (if_neg (by first | exact (fun q => c_5 q.1) | exact (fun q => c_15 q.2))).trans ?_; first | (with_reducible rfl) | (simp only [*, ix_0, ix_1, ix_2, ix_3, ix_4]; done) | (simp [*, ix_0, ix_1, ix_2, ix_3, ix_4]; done) | rfl | (simp_all [ix_0, ix_1, ix_2, ix_3, ix_4]; done)))
set_option maxRecDepth 100000 in
theorem lp_X6_gives {bn nn : Nat} (okp : okP f0) (hbn : bn < nB f0) (hnn : nn < 2 ^ 31) : ∀ (k tq : Nat), tq + k = nT f0 → ∀ (l6 : Option Value), ∀ (f1 : Nat → Int32), xGo X false (d + 7) 0 0 mX6_gives 63 [some (.ref 0), some (.int (nI bn)), some (.int (nI nn)), some (.int ((amn (Gl f0 bn nn) (wo (hsC nn f0) bn) (-1) tq).1)), some (.int ((amn (Gl f0 bn nn) (wo (hsC nn f0) bn) (-1) tq).2)), some (.int (nI tq)), l6] [] (hp (tri f0 f1 f2) o mf wf q) (CQ f2 o mf wf q (orM f0 (amn (Gl f0 bn nn) (wo (hsC nn f0) bn) (-1) (nT f0)).2)) := by
  intro k
  induction k with
  | zero =>
    intro tq ht l6 f1
    have h5 := okp.h5
    have h8 := okp.h8
    have etq : tq = nT f0 := by omega
    subst etq
    refine xg_iload (pc := 63) dX6_gives_63 rfl ?_
    refine xg_aload_n (pc := 65) dX6_gives_65 rfl ?_
    refine xg_get (pc := 66) dX6_gives_66 flX6_10 hp_0 rfl ?_
    refine xg_get (pc := 69) dX6_gives_69 flX6_91 (hp_lake0 ) rfl ?_
    refine xg_eq okp.1.1.1 ?_
    refine xg_icmp_ge (pc := 72) (tgt := 141) dX6_gives_72 (by decide) (fun c_72 => ?_) (fun c_72 => absurd c_72 (fun q => q (nI_le (by omega) (by omega))))
    refine xg_iload (pc := 141) dX6_gives_141 rfl ?_
    refine xg_if_ge (pc := 143) (tgt := 155) dX6_gives_143 (by decide) (fun c_143 => ?_) (fun c_143 => ?_)
    ·
      refine xg_iload (pc := 155) dX6_gives_155 rfl ?_
      exact xg_iret (pc := 157) dX6_gives_157 rfl (cqR (j := none) (by first | exact if_pos c_143 | exact if_neg c_143 | exact if_neg (Int32.not_lt.mpr c_143) | exact if_pos (Int32.not_le.mp c_143)))
    ·
      refine xg_aload_n (pc := 146) dX6_gives_146 rfl ?_
      refine xg_ldc (v := -1000000004) (pc := 147) dX6_gives_147 ccX6_195 ?_
      refine xg_cvI (pc := 149) (h1 := hp (tri f0 f1 f2) (o.1, upd o.2.1 3 (o.2.1 3 + 1), o.2.2.1, o.2.2.2.1, o.2.2.2.2.1, o.2.2.2.2.2.1, o.2.2.2.2.2.2.1, o.2.2.2.2.2.2.2.1, o.2.2.2.2.2.2.2.2.1, o.2.2.2.2.2.2.2.2.2.1, o.2.2.2.2.2.2.2.2.2.2) mf wf q) (x := -1000000004) (M' := mX6_finding) dX6_gives_149 lkX6_65 mcX6_finding hp_0 rfl (ev_X6_finding (j := 3) (by decide) (by decide)) rfl rfl (Nat.le_of_ble_eq_true rfl) ?_
      refine xg_goto (pc := 152) (tgt := 157) dX6_gives_152 (by decide) ?_
      exact xg_iret (pc := 157) dX6_gives_157 rfl (cqR (j := (some 3)) (by first | exact if_pos c_143 | exact if_neg c_143 | exact if_neg (Int32.not_lt.mpr c_143) | exact if_pos (Int32.not_le.mp c_143)))
  | succ k ih =>
    intro tq ht l6 f1
    have h5 := okp.h5
    have h8 := okp.h8
    have okx : okP (upd f0 (5 + 5 * tq + 3) 0) := okp.li (by omega) (by decide)
    refine xg_iload (pc := 63) dX6_gives_63 rfl ?_
    refine xg_aload_n (pc := 65) dX6_gives_65 rfl ?_
    refine xg_get (pc := 66) dX6_gives_66 flX6_10 hp_0 rfl ?_
    refine xg_get (pc := 69) dX6_gives_69 flX6_91 (hp_lake0 ) rfl ?_
    refine xg_eq okp.1.1.1 ?_
    refine xg_icmp_ge (pc := 72) (tgt := 141) dX6_gives_72 (by decide) (fun c_72 => absurd c_72 (nI_ge (by omega) (by omega))) (fun c_72 => ?_)
    refine xg_aload_n (pc := 75) dX6_gives_75 rfl ?_
    refine xg_get (pc := 76) dX6_gives_76 flX6_16 hp_0 rfl ?_
    refine xg_aload_n (pc := 79) dX6_gives_79 rfl ?_
    refine xg_get (pc := 80) dX6_gives_80 flX6_10 hp_0 rfl ?_
    refine xg_cvV (pc := 83) (h1 := hp (tri f0 (bcF f0 f1) f2) o mf wf q) (M' := mX1_become) dX6_gives_83 lkX6_188 mcX1_become (hp_lake1 ) rfl (ev_bec_10 okp.1.1) rfl rfl (Nat.le_of_ble_eq_true rfl) ?_
    generalize hg1 : bcF f0 f1 = g1
    have lg : lvE f0 g1 := hg1 ▸ bcF_lv okp.h8
    refine xg_aload_n (pc := 86) dX6_gives_86 rfl ?_
    refine xg_get (pc := 87) dX6_gives_87 flX6_16 hp_0 rfl ?_
    refine xg_get (pc := 90) dX6_gives_90 flX6_102 (hp_lake1 ) rfl ?_
    refine xg_iload (pc := 93) dX6_gives_93 rfl ?_
    refine xg_aald (pc := 95) (r := 3 + 16 * 1 + tq) tq dX6_gives_95 (hp_tarr1 ) (by decide) rfl (by omega) (by decide) (if_pos (by omega)) ?_
    refine xg_iconst (v := 0) (pc := 96) dX6_gives_96 (by decide) ?_
    refine xg_puti (pc := 97) (h' := hp (tri f0 (upd g1 (5 + 5 * tq + 3) 0) f2) o mf wf q) dX6_gives_97 flX6_117 (hp_thing1  (by omega)) (Nat.le_of_ble_eq_true rfl) (hs_t1  (c := 3) (by omega) (by decide)) ?_
    refine xg_aload_n (pc := 100) dX6_gives_100 rfl ?_
    refine xg_get (pc := 101) dX6_gives_101 flX6_16 hp_0 rfl ?_
    refine xg_iload_n (pc := 104) dX6_gives_104 rfl ?_
    refine xg_cvV (pc := 105) (h1 := hp (tri f0 (hsC nn (upd g1 (5 + 5 * tq + 3) 0)) f2) o mf wf q) (M' := mX1_passHours) dX6_gives_105 lkX6_172 mcX1_passHours (hp_lake1 ) rfl (ev1_X1_passHours (n := nn) ((lg.u (by omega) (by omega)).okM okx.1) (by omega)) rfl rfl (Nat.le_of_ble_eq_true rfl) ?_
    refine xg_aload_n (pc := 108) dX6_gives_108 rfl ?_
    refine xg_get (pc := 109) dX6_gives_109 flX6_16 hp_0 rfl ?_
    refine xg_get (pc := 112) dX6_gives_112 flX6_150 (hp_lake1 ) rfl ?_
    refine xg_iload_n (pc := 115) dX6_gives_115 rfl ?_
    refine xg_aald (pc := 116) (r := 12 + 16 * 1 + bn) bn dX6_gives_116 (hp_barr1 ) (by decide) rfl (by omega) (by decide) (if_pos (by omega)) ?_
    refine xg_cvI (pc := 117) (h1 := hp (tri f0 (hsC nn (upd g1 (5 + 5 * tq + 3) 0)) f2) o mf wf q) (x := (hsC nn (upd g1 (5 + 5 * tq + 3) 0)) (45 + 4 * bn + 3) + (hsC nn (upd g1 (5 + 5 * tq + 3) 0)) (45 + 4 * bn + 2)) (M' := mX0_worth) dX6_gives_117 lkX6_199 mcX0_worth (hp_boat1  (by omega)) rfl (ev1_X0_worth (j := bn) (by omega)) rfl rfl (Nat.le_of_ble_eq_true rfl) ?_
    refine xg_eq (show _ = (Gl f0 bn nn) tq from wo_hsu (k := 5 + 5 * tq + 3) okx lg (by omega) (by omega) hbn) ?_
    refine xg_istore (pc := 120) (ls' := [some (.ref 0), some (.int (nI bn)), some (.int (nI nn)), some (.int ((amn (Gl f0 bn nn) (wo (hsC nn f0) bn) (-1) tq).1)), some (.int ((amn (Gl f0 bn nn) (wo (hsC nn f0) bn) (-1) tq).2)), some (.int (nI tq)), some (.int ((Gl f0 bn nn) tq))]) dX6_gives_120 (by decide) rfl ?_
    refine xg_iload (pc := 122) dX6_gives_122 rfl ?_
    refine xg_iload_n (pc := 124) dX6_gives_124 rfl ?_
    refine xg_icmp_ge (pc := 125) (tgt := 135) dX6_gives_125 (by decide) (fun c_125 => ?_) (fun c_125 => ?_)
    ·
      refine xg_iinc (pc := 135) (y := nI (tq + 1)) (ls' := [some (.ref 0), some (.int (nI bn)), some (.int (nI nn)), some (.int ((amn (Gl f0 bn nn) (wo (hsC nn f0) bn) (-1) tq).1)), some (.int ((amn (Gl f0 bn nn) (wo (hsC nn f0) bn) (-1) tq).2)), some (.int (nI (tq + 1))), some (.int ((Gl f0 bn nn) tq))]) dX6_gives_135 rfl (xinc _) (by decide) rfl ?_
      refine xg_goto (pc := 138) (tgt := 63) dX6_gives_138 (by decide) ?_
      have e1 : amn (Gl f0 bn nn) (wo (hsC nn f0) bn) (-1) (tq + 1) = amn (Gl f0 bn nn) (wo (hsC nn f0) bn) (-1) tq := if_neg (Int32.not_lt.mpr c_125)
      have z := ih (tq + 1) (by omega)
      rw [e1] at z
      exact z _ _
    ·
      refine xg_iload (pc := 128) dX6_gives_128 rfl ?_
      refine xg_istore_n (pc := 130) (ls' := [some (.ref 0), some (.int (nI bn)), some (.int (nI nn)), some (.int ((Gl f0 bn nn) tq)), some (.int ((amn (Gl f0 bn nn) (wo (hsC nn f0) bn) (-1) tq).2)), some (.int (nI tq)), some (.int ((Gl f0 bn nn) tq))]) dX6_gives_130 (by decide) rfl ?_
      refine xg_iload (pc := 131) dX6_gives_131 rfl ?_
      refine xg_istore (pc := 133) (ls' := [some (.ref 0), some (.int (nI bn)), some (.int (nI nn)), some (.int ((Gl f0 bn nn) tq)), some (.int (nI tq)), some (.int (nI tq)), some (.int ((Gl f0 bn nn) tq))]) dX6_gives_133 (by decide) rfl ?_
      refine xg_iinc (pc := 135) (y := nI (tq + 1)) (ls' := [some (.ref 0), some (.int (nI bn)), some (.int (nI nn)), some (.int ((Gl f0 bn nn) tq)), some (.int (nI tq)), some (.int (nI (tq + 1))), some (.int ((Gl f0 bn nn) tq))]) dX6_gives_135 rfl (xinc _) (by decide) rfl ?_
      refine xg_goto (pc := 138) (tgt := 63) dX6_gives_138 (by decide) ?_
      have e1 : amn (Gl f0 bn nn) (wo (hsC nn f0) bn) (-1) (tq + 1) = (Gl f0 bn nn tq, nI tq) := if_pos (Int32.not_le.mp c_125)
      have z := ih (tq + 1) (by omega)
      rw [e1] at z
      exact z _ _
set_option maxRecDepth 100000 in
set_option maxHeartbeats 4000000 in
theorem ev_X6_gives {b n : Int32} (okp : okP f0) : xEv X false (d + 7) 0 0 mX6_gives [.ref 0, .int b, .int n] (hp (tri f0 f1 f2) o mf wf q) (CQ f2 o mf wf q (sp_gives f0 (amn (Gl f0 (ix b) (ix n)) (wo (hsC (ix n) f0) (ix b)) (-1) (nT f0)).2 b n)) := by
  have ok := okp.1.1
  have h8 := ok.2.1
  have h5 := ok.2.2.2
  refine xEv.of (ls := [some (.ref 0), some (.int b), some (.int n), none, none, none, none]) mcX6_gives.1.2.2.2.2 (Nat.le_of_ble_eq_true rfl) rfl ?_
  refine xg_aload_n (pc := 0) dX6_gives_0 rfl ?_
  refine xg_iload_n (pc := 1) dX6_gives_1 rfl ?_
  refine xg_cvI (pc := 2) (h1 := hp (tri f0 f1 f2) o mf wf q) (x := if 0 ≤ b ∧ b < f0 4 then 1 else 0) (M' := mX6_isBoat) dX6_gives_2 lkX6_147 mcX6_isBoat hp_0 rfl (ev_X6_isBoat) rfl rfl (Nat.le_of_ble_eq_true rfl) ?_
  refine xg_bz (pc := 5) (tgt := 18) dX6_gives_5 (by decide) (fun c_5 => ?_) (fun c_5 => ?_)
  ·
    refine xg_aload_n (pc := 18) dX6_gives_18 rfl ?_
    refine xg_ldc (v := -1000000001) (pc := 19) dX6_gives_19 ccX6_64 ?_
    refine xg_cvI (pc := 21) (h1 := hp (tri f0 f1 f2) (o.1, upd o.2.1 0 (o.2.1 0 + 1), o.2.2.1, o.2.2.2.1, o.2.2.2.2.1, o.2.2.2.2.2.1, o.2.2.2.2.2.2.1, o.2.2.2.2.2.2.2.1, o.2.2.2.2.2.2.2.2.1, o.2.2.2.2.2.2.2.2.2.1, o.2.2.2.2.2.2.2.2.2.2) mf wf q) (x := -1000000001) (M' := mX6_finding) dX6_gives_21 lkX6_65 mcX6_finding hp_0 rfl (ev_X6_finding (j := 0) (by decide) (by decide)) rfl rfl (Nat.le_of_ble_eq_true rfl) ?_
    exact xg_iret (pc := 24) dX6_gives_24 rfl (cqR (j := (some 0)) (by unfold sp_gives; refine (if_neg (by first | exact (fun q => c_5 q.1) | exact (fun q => c_15 q.2))).trans ?_; first | (with_reducible rfl) | (simp only [*, ix_0, ix_1, ix_2, ix_3, ix_4]; done) | (simp [*, ix_0, ix_1, ix_2, ix_3, ix_4]; done) | rfl | (simp_all [ix_0, ix_1, ix_2, ix_3, ix_4]; done)))
  ·
    refine xg_iload_n (pc := 8) dX6_gives_8 rfl ?_
    refine xg_iconst (v := 1) (pc := 9) dX6_gives_9 (by decide) ?_
    refine xg_bipush (v := 24) (pc := 10) dX6_gives_10 (by decide) ?_
    refine xg_csI (pc := 12) (h1 := hp (tri f0 f1 f2) o mf wf q) (x := if 1 ≤ n ∧ n ≤ 24 then 1 else 0) (M' := mX6_isWithin) dX6_gives_12 lkX6_53 mcX6_isWithin (ev_X6_isWithin) rfl rfl (Nat.le_of_ble_eq_true rfl) ?_
    refine xg_bnz (pc := 15) (tgt := 25) dX6_gives_15 (by decide) (fun c_15 => ?_) (fun c_15 => ?_)
    ·
      obtain ⟨bn, hbn, rfl⟩ := idxB ok c_5
      have ebn : ix (nI bn) = bn := nI_clamp (by omega)
      obtain ⟨nn, hnn, rfl⟩ := rng1 (n := 24) c_15 (by decide)
      have enn : ix (nI nn) = nn := nI_clamp (by omega)
      refine xg_aload_n (pc := 25) dX6_gives_25 rfl ?_
      refine xg_get (pc := 26) dX6_gives_26 flX6_16 hp_0 rfl ?_
      refine xg_aload_n (pc := 29) dX6_gives_29 rfl ?_
      refine xg_get (pc := 30) dX6_gives_30 flX6_10 hp_0 rfl ?_
      refine xg_cvV (pc := 33) (h1 := hp (tri f0 (bcF f0 f1) f2) o mf wf q) (M' := mX1_become) dX6_gives_33 lkX6_188 mcX1_become (hp_lake1 ) rfl (ev_bec_10 okp.1.1) rfl rfl (Nat.le_of_ble_eq_true rfl) ?_
      generalize hg1 : bcF f0 f1 = g1
      have lg : lvE f0 g1 := hg1 ▸ bcF_lv okp.h8
      refine xg_aload_n (pc := 36) dX6_gives_36 rfl ?_
      refine xg_get (pc := 37) dX6_gives_37 flX6_16 hp_0 rfl ?_
      refine xg_iload_n (pc := 40) dX6_gives_40 rfl ?_
      refine xg_cvV (pc := 41) (h1 := hp (tri f0 (hsC nn g1) f2) o mf wf q) (M' := mX1_passHours) dX6_gives_41 lkX6_172 mcX1_passHours (hp_lake1 ) rfl (ev1_X1_passHours (n := nn) (lg.okM okp.1) (by omega)) rfl rfl (Nat.le_of_ble_eq_true rfl) ?_
      refine xg_aload_n (pc := 44) dX6_gives_44 rfl ?_
      refine xg_get (pc := 45) dX6_gives_45 flX6_16 hp_0 rfl ?_
      refine xg_get (pc := 48) dX6_gives_48 flX6_150 (hp_lake1 ) rfl ?_
      refine xg_iload_n (pc := 51) dX6_gives_51 rfl ?_
      refine xg_aald (pc := 52) (r := 12 + 16 * 1 + bn) bn dX6_gives_52 (hp_barr1 ) (by decide) rfl (by omega) (by decide) (if_pos (by omega)) ?_
      refine xg_cvI (pc := 53) (h1 := hp (tri f0 (hsC nn g1) f2) o mf wf q) (x := (hsC nn g1) (45 + 4 * bn + 3) + (hsC nn g1) (45 + 4 * bn + 2)) (M' := mX0_worth) dX6_gives_53 lkX6_199 mcX0_worth (hp_boat1  (by omega)) rfl (ev1_X0_worth (j := bn) (by omega)) rfl rfl (Nat.le_of_ble_eq_true rfl) ?_
      refine xg_eq (wo_hs okp lg hbn) ?_
      refine xg_istore_n (pc := 56) (ls' := [some (.ref 0), some (.int (nI bn)), some (.int (nI nn)), some (.int (wo (hsC nn f0) bn)), none, none, none]) dX6_gives_56 (by decide) rfl ?_
      refine xg_iconst (v := -1) (pc := 57) dX6_gives_57 (by decide) ?_
      refine xg_istore (pc := 58) (ls' := [some (.ref 0), some (.int (nI bn)), some (.int (nI nn)), some (.int (wo (hsC nn f0) bn)), some (.int (-1)), none, none]) dX6_gives_58 (by decide) rfl ?_
      refine xg_iconst (v := 0) (pc := 60) dX6_gives_60 (by decide) ?_
      refine xg_istore (pc := 61) (ls' := [some (.ref 0), some (.int (nI bn)), some (.int (nI nn)), some (.int (wo (hsC nn f0) bn)), some (.int (-1)), some (.int 0), none]) dX6_gives_61 (by decide) rfl ?_
      rw [show sp_gives f0 (amn (Gl f0 (ix (nI bn)) (ix (nI nn))) (wo (hsC (ix (nI nn)) f0) (ix (nI bn))) (-1) (nT f0)).2 (nI bn) (nI nn) = orM f0 (amn (Gl f0 bn nn) (wo (hsC nn f0) bn) (-1) (nT f0)).2 from by unfold sp_gives; rw [if_pos ⟨c_5, c_15⟩, ebn, enn]]
      exact lp_X6_gives okp hbn (by omega) (nT f0) 0 (by omega) _ _
    ·
      refine xg_aload_n (pc := 18) dX6_gives_18 rfl ?_
      refine xg_ldc (v := -1000000001) (pc := 19) dX6_gives_19 ccX6_64 ?_
      refine xg_cvI (pc := 21) (h1 := hp (tri f0 f1 f2) (o.1, upd o.2.1 0 (o.2.1 0 + 1), o.2.2.1, o.2.2.2.1, o.2.2.2.2.1, o.2.2.2.2.2.1, o.2.2.2.2.2.2.1, o.2.2.2.2.2.2.2.1, o.2.2.2.2.2.2.2.2.1, o.2.2.2.2.2.2.2.2.2.1, o.2.2.2.2.2.2.2.2.2.2) mf wf q) (x := -1000000001) (M' := mX6_finding) dX6_gives_21 lkX6_65 mcX6_finding hp_0 rfl (ev_X6_finding (j := 0) (by decide) (by decide)) rfl rfl (Nat.le_of_ble_eq_true rfl) ?_
      exact xg_iret (pc := 24) dX6_gives_24 rfl (cqR (j := (some 0)) (by unfold sp_gives; refine (if_neg (by first | exact (fun q => c_5 q.1) | exact (fun q => c_15 q.2))).trans ?_; first | (with_reducible rfl) | (simp only [*, ix_0, ix_1, ix_2, ix_3, ix_4]; done) | (simp [*, ix_0, ix_1, ix_2, ix_3, ix_4]; done) | rfl | (simp_all [ix_0, ix_1, ix_2, ix_3, ix_4]; done)))
set_option maxRecDepth 100000 in
set_option maxHeartbeats 4000000 in
theorem ev_X6_rival {b b' n : Int32} (okp : okP f0) : xEv X false (d + 7) 0 0 mX6_rival [.ref 0, .int b, .int b', .int n] (hp (tri f0 f1 f2) o mf wf q) (CQ f2 o mf wf q (sp_rival f0 (wo (hsC (ix n) (upd f0 (45 + 4 * ix b' + 1) 0)) (ix b) - wo (hsC (ix n) f0) (ix b)) b b' n)) := by
  have ok := okp.1.1
  have h8 := ok.2.1
  have h5 := ok.2.2.2
  refine xEv.of (ls := [some (.ref 0), some (.int b), some (.int b'), some (.int n), none]) mcX6_rival.1.2.2.2.2 (Nat.le_of_ble_eq_true rfl) rfl ?_
  refine xg_aload_n (pc := 0) dX6_rival_0 rfl ?_
  refine xg_iload_n (pc := 1) dX6_rival_1 rfl ?_
  refine xg_cvI (pc := 2) (h1 := hp (tri f0 f1 f2) o mf wf q) (x := if 0 ≤ b ∧ b < f0 4 then 1 else 0) (M' := mX6_isBoat) dX6_rival_2 lkX6_147 mcX6_isBoat hp_0 rfl (ev_X6_isBoat) rfl rfl (Nat.le_of_ble_eq_true rfl) ?_
  refine xg_bz (pc := 5) (tgt := 21) dX6_rival_5 (by decide) (fun c_5 => ?_) (fun c_5 => ?_)
  ·
    refine xg_aload_n (pc := 21) dX6_rival_21 rfl ?_
    refine xg_ldc (v := -1000000001) (pc := 22) dX6_rival_22 ccX6_64 ?_
    refine xg_cvI (pc := 24) (h1 := hp (tri f0 f1 f2) (o.1, upd o.2.1 0 (o.2.1 0 + 1), o.2.2.1, o.2.2.2.1, o.2.2.2.2.1, o.2.2.2.2.2.1, o.2.2.2.2.2.2.1, o.2.2.2.2.2.2.2.1, o.2.2.2.2.2.2.2.2.1, o.2.2.2.2.2.2.2.2.2.1, o.2.2.2.2.2.2.2.2.2.2) mf wf q) (x := -1000000001) (M' := mX6_finding) dX6_rival_24 lkX6_65 mcX6_finding hp_0 rfl (ev_X6_finding (j := 0) (by decide) (by decide)) rfl rfl (Nat.le_of_ble_eq_true rfl) ?_
    exact xg_iret (pc := 27) dX6_rival_27 rfl (cqR (j := (some 0)) (by unfold sp_rival; refine (if_neg (by first | exact ⟨⟨c_5, c_13, c_18⟩, c_35⟩ | exact (fun q => c_5 q.1.1) | exact (fun q => c_13 q.1.2.1) | exact (fun q => q.1.2.2 c_18) | exact (fun q => c_18 q.1.2.2) | exact (fun q => c_35 q.2))).trans ?_; first | (with_reducible rfl) | (simp only [*, ix_0, ix_1, ix_2, ix_3, ix_4]; done) | (simp [*, ix_0, ix_1, ix_2, ix_3, ix_4]; done) | rfl | (simp_all [ix_0, ix_1, ix_2, ix_3, ix_4]; done)))
  ·
    refine xg_aload_n (pc := 8) dX6_rival_8 rfl ?_
    refine xg_iload_n (pc := 9) dX6_rival_9 rfl ?_
    refine xg_cvI (pc := 10) (h1 := hp (tri f0 f1 f2) o mf wf q) (x := if 0 ≤ b' ∧ b' < f0 4 then 1 else 0) (M' := mX6_isBoat) dX6_rival_10 lkX6_147 mcX6_isBoat hp_0 rfl (ev_X6_isBoat) rfl rfl (Nat.le_of_ble_eq_true rfl) ?_
    refine xg_bz (pc := 13) (tgt := 21) dX6_rival_13 (by decide) (fun c_13 => ?_) (fun c_13 => ?_)
    ·
      refine xg_aload_n (pc := 21) dX6_rival_21 rfl ?_
      refine xg_ldc (v := -1000000001) (pc := 22) dX6_rival_22 ccX6_64 ?_
      refine xg_cvI (pc := 24) (h1 := hp (tri f0 f1 f2) (o.1, upd o.2.1 0 (o.2.1 0 + 1), o.2.2.1, o.2.2.2.1, o.2.2.2.2.1, o.2.2.2.2.2.1, o.2.2.2.2.2.2.1, o.2.2.2.2.2.2.2.1, o.2.2.2.2.2.2.2.2.1, o.2.2.2.2.2.2.2.2.2.1, o.2.2.2.2.2.2.2.2.2.2) mf wf q) (x := -1000000001) (M' := mX6_finding) dX6_rival_24 lkX6_65 mcX6_finding hp_0 rfl (ev_X6_finding (j := 0) (by decide) (by decide)) rfl rfl (Nat.le_of_ble_eq_true rfl) ?_
      exact xg_iret (pc := 27) dX6_rival_27 rfl (cqR (j := (some 0)) (by unfold sp_rival; refine (if_neg (by first | exact ⟨⟨c_5, c_13, c_18⟩, c_35⟩ | exact (fun q => c_5 q.1.1) | exact (fun q => c_13 q.1.2.1) | exact (fun q => q.1.2.2 c_18) | exact (fun q => c_18 q.1.2.2) | exact (fun q => c_35 q.2))).trans ?_; first | (with_reducible rfl) | (simp only [*, ix_0, ix_1, ix_2, ix_3, ix_4]; done) | (simp [*, ix_0, ix_1, ix_2, ix_3, ix_4]; done) | rfl | (simp_all [ix_0, ix_1, ix_2, ix_3, ix_4]; done)))
    ·
      refine xg_iload_n (pc := 16) dX6_rival_16 rfl ?_
      refine xg_iload_n (pc := 17) dX6_rival_17 rfl ?_
      refine xg_icmp_ne (pc := 18) (tgt := 28) dX6_rival_18 (by decide) (fun c_18 => ?_) (fun c_18 => ?_)
      ·
        refine xg_iload_n (pc := 28) dX6_rival_28 rfl ?_
        refine xg_iconst (v := 1) (pc := 29) dX6_rival_29 (by decide) ?_
        refine xg_bipush (v := 24) (pc := 30) dX6_rival_30 (by decide) ?_
        refine xg_csI (pc := 32) (h1 := hp (tri f0 f1 f2) o mf wf q) (x := if 1 ≤ n ∧ n ≤ 24 then 1 else 0) (M' := mX6_isWithin) dX6_rival_32 lkX6_53 mcX6_isWithin (ev_X6_isWithin) rfl rfl (Nat.le_of_ble_eq_true rfl) ?_
        refine xg_bnz (pc := 35) (tgt := 45) dX6_rival_35 (by decide) (fun c_35 => ?_) (fun c_35 => ?_)
        ·
          obtain ⟨bn, hbn, rfl⟩ := idxB ok c_5
          have ebn : ix (nI bn) = bn := nI_clamp (by omega)
          obtain ⟨bm, hbm, rfl⟩ := idxB ok c_13
          have ebm : ix (nI bm) = bm := nI_clamp (by omega)
          obtain ⟨nn, hnn, rfl⟩ := rng1 (n := 24) c_35 (by decide)
          have enn : ix (nI nn) = nn := nI_clamp (by omega)
          have okx : okP (upd f0 (45 + 4 * bm + 1) 0) := okp.ne (by omega) (by decide)
          refine xg_aload_n (pc := 45) dX6_rival_45 rfl ?_
          refine xg_get (pc := 46) dX6_rival_46 flX6_16 hp_0 rfl ?_
          refine xg_aload_n (pc := 49) dX6_rival_49 rfl ?_
          refine xg_get (pc := 50) dX6_rival_50 flX6_10 hp_0 rfl ?_
          refine xg_cvV (pc := 53) (h1 := hp (tri f0 (bcF f0 f1) f2) o mf wf q) (M' := mX1_become) dX6_rival_53 lkX6_188 mcX1_become (hp_lake1 ) rfl (ev_bec_10 okp.1.1) rfl rfl (Nat.le_of_ble_eq_true rfl) ?_
          generalize hg1 : bcF f0 f1 = g1
          have lg : lvE f0 g1 := hg1 ▸ bcF_lv okp.h8
          refine xg_aload_n (pc := 56) dX6_rival_56 rfl ?_
          refine xg_get (pc := 57) dX6_rival_57 flX6_16 hp_0 rfl ?_
          refine xg_iload_n (pc := 60) dX6_rival_60 rfl ?_
          refine xg_cvV (pc := 61) (h1 := hp (tri f0 (hsC nn g1) f2) o mf wf q) (M' := mX1_passHours) dX6_rival_61 lkX6_172 mcX1_passHours (hp_lake1 ) rfl (ev1_X1_passHours (n := nn) (lg.okM okp.1) (by omega)) rfl rfl (Nat.le_of_ble_eq_true rfl) ?_
          refine xg_aload_n (pc := 64) dX6_rival_64 rfl ?_
          refine xg_get (pc := 65) dX6_rival_65 flX6_16 hp_0 rfl ?_
          refine xg_get (pc := 68) dX6_rival_68 flX6_150 (hp_lake1 ) rfl ?_
          refine xg_iload_n (pc := 71) dX6_rival_71 rfl ?_
          refine xg_aald (pc := 72) (r := 12 + 16 * 1 + bn) bn dX6_rival_72 (hp_barr1 ) (by decide) rfl (by omega) (by decide) (if_pos (by omega)) ?_
          refine xg_cvI (pc := 73) (h1 := hp (tri f0 (hsC nn g1) f2) o mf wf q) (x := (hsC nn g1) (45 + 4 * bn + 3) + (hsC nn g1) (45 + 4 * bn + 2)) (M' := mX0_worth) dX6_rival_73 lkX6_199 mcX0_worth (hp_boat1  (by omega)) rfl (ev1_X0_worth (j := bn) (by omega)) rfl rfl (Nat.le_of_ble_eq_true rfl) ?_
          refine xg_eq (wo_hs okp lg hbn) ?_
          refine xg_istore (pc := 76) (ls' := [some (.ref 0), some (.int (nI bn)), some (.int (nI bm)), some (.int (nI nn)), some (.int (wo (hsC nn f0) bn))]) dX6_rival_76 (by decide) rfl ?_
          refine xg_aload_n (pc := 78) dX6_rival_78 rfl ?_
          refine xg_get (pc := 79) dX6_rival_79 flX6_16 hp_0 rfl ?_
          refine xg_aload_n (pc := 82) dX6_rival_82 rfl ?_
          refine xg_get (pc := 83) dX6_rival_83 flX6_10 hp_0 rfl ?_
          refine xg_cvV (pc := 86) (h1 := hp (tri f0 (bcF f0 (hsC nn g1)) f2) o mf wf q) (M' := mX1_become) dX6_rival_86 lkX6_188 mcX1_become (hp_lake1 ) rfl (ev_bec_10 okp.1.1) rfl rfl (Nat.le_of_ble_eq_true rfl) ?_
          generalize hg1 : bcF f0 (hsC nn g1) = g1
          have lg : lvE f0 g1 := hg1 ▸ bcF_lv okp.h8
          refine xg_aload_n (pc := 89) dX6_rival_89 rfl ?_
          refine xg_get (pc := 90) dX6_rival_90 flX6_16 hp_0 rfl ?_
          refine xg_get (pc := 93) dX6_rival_93 flX6_150 (hp_lake1 ) rfl ?_
          refine xg_iload_n (pc := 96) dX6_rival_96 rfl ?_
          refine xg_aald (pc := 97) (r := 12 + 16 * 1 + bm) bm dX6_rival_97 (hp_barr1 ) (by decide) rfl (by omega) (by decide) (if_pos (by omega)) ?_
          refine xg_iconst (v := 0) (pc := 98) dX6_rival_98 (by decide) ?_
          refine xg_puti (pc := 99) (h' := hp (tri f0 (upd g1 (45 + 4 * bm + 1) 0) f2) o mf wf q) dX6_rival_99 flX6_159 (hp_boat1  (by omega)) (Nat.le_of_ble_eq_true rfl) (hs_b1  (c := 1) (by omega) (by decide)) ?_
          refine xg_aload_n (pc := 102) dX6_rival_102 rfl ?_
          refine xg_get (pc := 103) dX6_rival_103 flX6_16 hp_0 rfl ?_
          refine xg_iload_n (pc := 106) dX6_rival_106 rfl ?_
          refine xg_cvV (pc := 107) (h1 := hp (tri f0 (hsC nn (upd g1 (45 + 4 * bm + 1) 0)) f2) o mf wf q) (M' := mX1_passHours) dX6_rival_107 lkX6_172 mcX1_passHours (hp_lake1 ) rfl (ev1_X1_passHours (n := nn) ((lg.u (by omega) (by omega)).okM okx.1) (by omega)) rfl rfl (Nat.le_of_ble_eq_true rfl) ?_
          refine xg_aload_n (pc := 110) dX6_rival_110 rfl ?_
          refine xg_get (pc := 111) dX6_rival_111 flX6_16 hp_0 rfl ?_
          refine xg_get (pc := 114) dX6_rival_114 flX6_150 (hp_lake1 ) rfl ?_
          refine xg_iload_n (pc := 117) dX6_rival_117 rfl ?_
          refine xg_aald (pc := 118) (r := 12 + 16 * 1 + bn) bn dX6_rival_118 (hp_barr1 ) (by decide) rfl (by omega) (by decide) (if_pos (by omega)) ?_
          refine xg_cvI (pc := 119) (h1 := hp (tri f0 (hsC nn (upd g1 (45 + 4 * bm + 1) 0)) f2) o mf wf q) (x := (hsC nn (upd g1 (45 + 4 * bm + 1) 0)) (45 + 4 * bn + 3) + (hsC nn (upd g1 (45 + 4 * bm + 1) 0)) (45 + 4 * bn + 2)) (M' := mX0_worth) dX6_rival_119 lkX6_199 mcX0_worth (hp_boat1  (by omega)) rfl (ev1_X0_worth (j := bn) (by omega)) rfl rfl (Nat.le_of_ble_eq_true rfl) ?_
          refine xg_eq (wo_hsu okx lg (by omega) (by omega) hbn) ?_
          refine xg_iload (pc := 122) dX6_rival_122 rfl ?_
          refine xg_isub (pc := 124) dX6_rival_124 ?_
          exact xg_iret (pc := 125) dX6_rival_125 rfl (cqR (j := none) (by unfold sp_rival; refine (if_pos (by first | exact ⟨⟨c_5, c_13, c_18⟩, c_35⟩ | exact (fun q => c_5 q.1.1) | exact (fun q => c_13 q.1.2.1) | exact (fun q => q.1.2.2 c_18) | exact (fun q => c_18 q.1.2.2) | exact (fun q => c_35 q.2))).trans ?_; first | (with_reducible rfl) | (simp only [*, ix_0, ix_1, ix_2, ix_3, ix_4]; done) | (simp [*, ix_0, ix_1, ix_2, ix_3, ix_4]; done) | rfl | (simp_all [ix_0, ix_1, ix_2, ix_3, ix_4]; done)))
        ·
          refine xg_aload_n (pc := 38) dX6_rival_38 rfl ?_
          refine xg_ldc (v := -1000000001) (pc := 39) dX6_rival_39 ccX6_64 ?_
          refine xg_cvI (pc := 41) (h1 := hp (tri f0 f1 f2) (o.1, upd o.2.1 0 (o.2.1 0 + 1), o.2.2.1, o.2.2.2.1, o.2.2.2.2.1, o.2.2.2.2.2.1, o.2.2.2.2.2.2.1, o.2.2.2.2.2.2.2.1, o.2.2.2.2.2.2.2.2.1, o.2.2.2.2.2.2.2.2.2.1, o.2.2.2.2.2.2.2.2.2.2) mf wf q) (x := -1000000001) (M' := mX6_finding) dX6_rival_41 lkX6_65 mcX6_finding hp_0 rfl (ev_X6_finding (j := 0) (by decide) (by decide)) rfl rfl (Nat.le_of_ble_eq_true rfl) ?_
          exact xg_iret (pc := 44) dX6_rival_44 rfl (cqR (j := (some 0)) (by unfold sp_rival; refine (if_neg (by first | exact ⟨⟨c_5, c_13, c_18⟩, c_35⟩ | exact (fun q => c_5 q.1.1) | exact (fun q => c_13 q.1.2.1) | exact (fun q => q.1.2.2 c_18) | exact (fun q => c_18 q.1.2.2) | exact (fun q => c_35 q.2))).trans ?_; first | (with_reducible rfl) | (simp only [*, ix_0, ix_1, ix_2, ix_3, ix_4]; done) | (simp [*, ix_0, ix_1, ix_2, ix_3, ix_4]; done) | rfl | (simp_all [ix_0, ix_1, ix_2, ix_3, ix_4]; done)))
      ·
        refine xg_aload_n (pc := 21) dX6_rival_21 rfl ?_
        refine xg_ldc (v := -1000000001) (pc := 22) dX6_rival_22 ccX6_64 ?_
        refine xg_cvI (pc := 24) (h1 := hp (tri f0 f1 f2) (o.1, upd o.2.1 0 (o.2.1 0 + 1), o.2.2.1, o.2.2.2.1, o.2.2.2.2.1, o.2.2.2.2.2.1, o.2.2.2.2.2.2.1, o.2.2.2.2.2.2.2.1, o.2.2.2.2.2.2.2.2.1, o.2.2.2.2.2.2.2.2.2.1, o.2.2.2.2.2.2.2.2.2.2) mf wf q) (x := -1000000001) (M' := mX6_finding) dX6_rival_24 lkX6_65 mcX6_finding hp_0 rfl (ev_X6_finding (j := 0) (by decide) (by decide)) rfl rfl (Nat.le_of_ble_eq_true rfl) ?_
        exact xg_iret (pc := 27) dX6_rival_27 rfl (cqR (j := (some 0)) (by unfold sp_rival; refine (if_neg (by first | exact ⟨⟨c_5, c_13, c_18⟩, c_35⟩ | exact (fun q => c_5 q.1.1) | exact (fun q => c_13 q.1.2.1) | exact (fun q => q.1.2.2 c_18) | exact (fun q => c_18 q.1.2.2) | exact (fun q => c_35 q.2))).trans ?_; first | (with_reducible rfl) | (simp only [*, ix_0, ix_1, ix_2, ix_3, ix_4]; done) | (simp [*, ix_0, ix_1, ix_2, ix_3, ix_4]; done) | rfl | (simp_all [ix_0, ix_1, ix_2, ix_3, ix_4]; done)))
set_option maxRecDepth 100000 in
theorem lp_X6_brightest  (okp : okP f0) : ∀ (k tq : Nat), tq + k = 48 → ∀ (l4 : Option Value), xGo X false (d + 4) 0 0 mX6_brightest 6 [some (.ref 0), some (.int ((amx (fun c => glC f0 (nI c)) 0 (-1) tq).2)), some (.int ((amx (fun c => glC f0 (nI c)) 0 (-1) tq).1)), some (.int (nI tq)), l4] [] (hp (tri f0 f1 f2) o mf wf q) (CQ f2 o mf wf q (orM f0 (amx (fun c => glC f0 (nI c)) 0 (-1) 48).2)) := by
  intro k
  induction k with
  | zero =>
    intro tq ht l4
    have etq : tq = 48 := by omega
    subst etq
    refine xg_iload_n (pc := 6) dX6_brightest_6 rfl ?_
    refine xg_bipush (v := 48) (pc := 7) dX6_brightest_7 (by decide) ?_
    refine xg_icmp_ge (pc := 9) (tgt := 39) dX6_brightest_9 (by decide) (fun c_9 => ?_) (fun c_9 => absurd c_9 (by decide))
    refine xg_iload_n (pc := 39) dX6_brightest_39 rfl ?_
    refine xg_if_ge (pc := 40) (tgt := 52) dX6_brightest_40 (by decide) (fun c_40 => ?_) (fun c_40 => ?_)
    ·
      refine xg_iload_n (pc := 52) dX6_brightest_52 rfl ?_
      exact xg_iret (pc := 53) dX6_brightest_53 rfl (cqR (j := none) (by first | exact if_pos c_40 | exact if_neg c_40 | exact if_neg (Int32.not_lt.mpr c_40) | exact if_pos (Int32.not_le.mp c_40)))
    ·
      refine xg_aload_n (pc := 43) dX6_brightest_43 rfl ?_
      refine xg_ldc (v := -1000000004) (pc := 44) dX6_brightest_44 ccX6_195 ?_
      refine xg_cvI (pc := 46) (h1 := hp (tri f0 f1 f2) (o.1, upd o.2.1 3 (o.2.1 3 + 1), o.2.2.1, o.2.2.2.1, o.2.2.2.2.1, o.2.2.2.2.2.1, o.2.2.2.2.2.2.1, o.2.2.2.2.2.2.2.1, o.2.2.2.2.2.2.2.2.1, o.2.2.2.2.2.2.2.2.2.1, o.2.2.2.2.2.2.2.2.2.2) mf wf q) (x := -1000000004) (M' := mX6_finding) dX6_brightest_46 lkX6_65 mcX6_finding hp_0 rfl (ev_X6_finding (j := 3) (by decide) (by decide)) rfl rfl (Nat.le_of_ble_eq_true rfl) ?_
      refine xg_goto (pc := 49) (tgt := 53) dX6_brightest_49 (by decide) ?_
      exact xg_iret (pc := 53) dX6_brightest_53 rfl (cqR (j := (some 3)) (by first | exact if_pos c_40 | exact if_neg c_40 | exact if_neg (Int32.not_lt.mpr c_40) | exact if_pos (Int32.not_le.mp c_40)))
  | succ k ih =>
    intro tq ht l4
    refine xg_iload_n (pc := 6) dX6_brightest_6 rfl ?_
    refine xg_bipush (v := 48) (pc := 7) dX6_brightest_7 (by decide) ?_
    refine xg_icmp_ge (pc := 9) (tgt := 39) dX6_brightest_9 (by decide) (fun c_9 => absurd c_9 (nI_ge (b := 48) (by omega) (by omega))) (fun c_9 => ?_)
    refine xg_aload_n (pc := 12) dX6_brightest_12 rfl ?_
    refine xg_get (pc := 13) dX6_brightest_13 flX6_10 hp_0 rfl ?_
    refine xg_iload_n (pc := 16) dX6_brightest_16 rfl ?_
    refine xg_cvI (pc := 17) (h1 := hp (tri f0 f1 f2) o mf wf q) (x := glC f0 (nI tq)) (M' := mX1_glintOf) dX6_brightest_17 lkX6_73 mcX1_glintOf (hp_lake0 ) rfl (ev0_X1_glintOf okp.1.1 (cell_of (by omega))) rfl rfl (Nat.le_of_ble_eq_true rfl) ?_
    refine xg_istore (pc := 20) (ls' := [some (.ref 0), some (.int ((amx (fun c => glC f0 (nI c)) 0 (-1) tq).2)), some (.int ((amx (fun c => glC f0 (nI c)) 0 (-1) tq).1)), some (.int (nI tq)), some (.int (glC f0 (nI tq)))]) dX6_brightest_20 (by decide) rfl ?_
    refine xg_iload (pc := 22) dX6_brightest_22 rfl ?_
    refine xg_iload_n (pc := 24) dX6_brightest_24 rfl ?_
    refine xg_icmp_le (pc := 25) (tgt := 33) dX6_brightest_25 (by decide) (fun c_25 => ?_) (fun c_25 => ?_)
    ·
      refine xg_iinc (pc := 33) (y := nI (tq + 1)) (ls' := [some (.ref 0), some (.int ((amx (fun c => glC f0 (nI c)) 0 (-1) tq).2)), some (.int ((amx (fun c => glC f0 (nI c)) 0 (-1) tq).1)), some (.int (nI (tq + 1))), some (.int (glC f0 (nI tq)))]) dX6_brightest_33 rfl (xinc _) (by decide) rfl ?_
      refine xg_goto (pc := 36) (tgt := 6) dX6_brightest_36 (by decide) ?_
      have e1 : amx (fun c => glC f0 (nI c)) 0 (-1) (tq + 1) = amx (fun c => glC f0 (nI c)) 0 (-1) tq := if_neg (Int32.not_lt.mpr c_25)
      have z := ih (tq + 1) (by omega)
      rw [e1] at z
      exact z _
    ·
      refine xg_iload (pc := 28) dX6_brightest_28 rfl ?_
      refine xg_istore_n (pc := 30) (ls' := [some (.ref 0), some (.int ((amx (fun c => glC f0 (nI c)) 0 (-1) tq).2)), some (.int (glC f0 (nI tq))), some (.int (nI tq)), some (.int (glC f0 (nI tq)))]) dX6_brightest_30 (by decide) rfl ?_
      refine xg_iload_n (pc := 31) dX6_brightest_31 rfl ?_
      refine xg_istore_n (pc := 32) (ls' := [some (.ref 0), some (.int (nI tq)), some (.int (glC f0 (nI tq))), some (.int (nI tq)), some (.int (glC f0 (nI tq)))]) dX6_brightest_32 (by decide) rfl ?_
      refine xg_iinc (pc := 33) (y := nI (tq + 1)) (ls' := [some (.ref 0), some (.int (nI tq)), some (.int (glC f0 (nI tq))), some (.int (nI (tq + 1))), some (.int (glC f0 (nI tq)))]) dX6_brightest_33 rfl (xinc _) (by decide) rfl ?_
      refine xg_goto (pc := 36) (tgt := 6) dX6_brightest_36 (by decide) ?_
      have e1 : amx (fun c => glC f0 (nI c)) 0 (-1) (tq + 1) = (glC f0 (nI tq), nI tq) := if_pos (Int32.not_le.mp c_25)
      have z := ih (tq + 1) (by omega)
      rw [e1] at z
      exact z _
set_option maxRecDepth 100000 in
set_option maxHeartbeats 4000000 in
theorem ev_X6_brightest  (okp : okP f0) : xEv X false (d + 4) 0 0 mX6_brightest [.ref 0] (hp (tri f0 f1 f2) o mf wf q) (CQ f2 o mf wf q (orM f0 (amx (fun c => glC f0 (nI c)) 0 (-1) 48).2)) := by
  have ok := okp.1.1
  have h8 := ok.2.1
  have h5 := ok.2.2.2
  refine xEv.of (ls := [some (.ref 0), none, none, none, none]) mcX6_brightest.1.2.2.2.2 (Nat.le_of_ble_eq_true rfl) rfl ?_
  refine xg_iconst (v := -1) (pc := 0) dX6_brightest_0 (by decide) ?_
  refine xg_istore_n (pc := 1) (ls' := [some (.ref 0), some (.int (-1)), none, none, none]) dX6_brightest_1 (by decide) rfl ?_
  refine xg_iconst (v := 0) (pc := 2) dX6_brightest_2 (by decide) ?_
  refine xg_istore_n (pc := 3) (ls' := [some (.ref 0), some (.int (-1)), some (.int 0), none, none]) dX6_brightest_3 (by decide) rfl ?_
  refine xg_iconst (v := 0) (pc := 4) dX6_brightest_4 (by decide) ?_
  refine xg_istore_n (pc := 5) (ls' := [some (.ref 0), some (.int (-1)), some (.int 0), some (.int 0), none]) dX6_brightest_5 (by decide) rfl ?_
  exact lp_X6_brightest okp 48 0 rfl _
set_option maxRecDepth 100000 in
theorem lp_X6_time {c : Int32} (okp : okP f0) (hc : 0 ≤ c ∧ c ≤ 47) : ∀ (k tq : Nat), tq + k = 24 → ∀ (l5 : Option Value), ∀ (g1 : Nat → Int32), lvE f0 (upd g1 0 (f0 0)) → xGo X false (d + 4) 0 0 mX6_time 32 [some (.ref 0), some (.int c), some (.int ((amx (Gh f0 c) (-1) 0 tq).2)), some (.int ((amx (Gh f0 c) (-1) 0 tq).1)), some (.int (nI tq)), l5] [] (hp (tri f0 g1 f2) o mf wf q) (CQ f2 o mf wf q ((amx (Gh f0 c) (-1) 0 24).2, none, f0)) := by
  intro k
  induction k with
  | zero =>
    intro tq ht l5 g1 lg
    have etq : tq = 24 := by omega
    subst etq
    refine xg_iload (pc := 32) dX6_time_32 rfl ?_
    refine xg_bipush (v := 24) (pc := 34) dX6_time_34 (by decide) ?_
    refine xg_icmp_ge (pc := 36) (tgt := 76) dX6_time_36 (by decide) (fun c_36 => ?_) (fun c_36 => absurd c_36 (by decide))
    refine xg_iload_n (pc := 76) dX6_time_76 rfl ?_
    exact xg_iret (pc := 77) dX6_time_77 rfl (cqR (j := none) (by rfl))
  | succ k ih =>
    intro tq ht l5 g1 lg
    have lx : lvE (upd f0 0 (nI tq)) (upd g1 0 (nI tq)) := by have := lg.u (k := 0) (x := nI tq) (by decide) (by decide); rwa [upd_upd] at this
    refine xg_iload (pc := 32) dX6_time_32 rfl ?_
    refine xg_bipush (v := 24) (pc := 34) dX6_time_34 (by decide) ?_
    refine xg_icmp_ge (pc := 36) (tgt := 76) dX6_time_36 (by decide) (fun c_36 => absurd c_36 (nI_ge (b := 24) (by omega) (by omega))) (fun c_36 => ?_)
    refine xg_aload_n (pc := 39) dX6_time_39 rfl ?_
    refine xg_get (pc := 40) dX6_time_40 flX6_16 hp_0 rfl ?_
    refine xg_iload (pc := 43) dX6_time_43 rfl ?_
    refine xg_puti (pc := 45) (h' := hp (tri f0 (upd g1 0 (nI tq)) f2) o mf wf q) dX6_time_45 flX6_123 (hp_lake1 ) (Nat.le_of_ble_eq_true rfl) (hs_lk1  (by decide)) ?_
    refine xg_aload_n (pc := 48) dX6_time_48 rfl ?_
    refine xg_get (pc := 49) dX6_time_49 flX6_16 hp_0 rfl ?_
    refine xg_iload_n (pc := 52) dX6_time_52 rfl ?_
    refine xg_cvI (pc := 53) (h1 := hp (tri f0 (upd g1 0 (nI tq)) f2) o mf wf q) (x := glC (upd g1 0 (nI tq)) c) (M' := mX1_glintOf) dX6_time_53 lkX6_73 mcX1_glintOf (hp_lake1 ) rfl (ev1_X1_glintOf (lx.okN (okp.lo (by decide)).1.1) hc) rfl rfl (Nat.le_of_ble_eq_true rfl) ?_
    refine xg_eq (show _ = Gh f0 c tq from glC_lv lx) ?_
    refine xg_istore (pc := 56) (ls' := [some (.ref 0), some (.int c), some (.int ((amx (Gh f0 c) (-1) 0 tq).2)), some (.int ((amx (Gh f0 c) (-1) 0 tq).1)), some (.int (nI tq)), some (.int (Gh f0 c tq))]) dX6_time_56 (by decide) rfl ?_
    refine xg_iload (pc := 58) dX6_time_58 rfl ?_
    refine xg_iload_n (pc := 60) dX6_time_60 rfl ?_
    refine xg_icmp_le (pc := 61) (tgt := 70) dX6_time_61 (by decide) (fun c_61 => ?_) (fun c_61 => ?_)
    ·
      refine xg_iinc (pc := 70) (y := nI (tq + 1)) (ls' := [some (.ref 0), some (.int c), some (.int ((amx (Gh f0 c) (-1) 0 tq).2)), some (.int ((amx (Gh f0 c) (-1) 0 tq).1)), some (.int (nI (tq + 1))), some (.int (Gh f0 c tq))]) dX6_time_70 rfl (xinc _) (by decide) rfl ?_
      refine xg_goto (pc := 73) (tgt := 32) dX6_time_73 (by decide) ?_
      have e1 : amx (Gh f0 c) (-1) 0 (tq + 1) = amx (Gh f0 c) (-1) 0 tq := if_neg (Int32.not_lt.mpr c_61)
      have z := ih (tq + 1) (by omega)
      rw [e1] at z
      exact z _ _ (by rw [upd_upd]; exact lg)
    ·
      refine xg_iload (pc := 64) dX6_time_64 rfl ?_
      refine xg_istore_n (pc := 66) (ls' := [some (.ref 0), some (.int c), some (.int ((amx (Gh f0 c) (-1) 0 tq).2)), some (.int (Gh f0 c tq)), some (.int (nI tq)), some (.int (Gh f0 c tq))]) dX6_time_66 (by decide) rfl ?_
      refine xg_iload (pc := 67) dX6_time_67 rfl ?_
      refine xg_istore_n (pc := 69) (ls' := [some (.ref 0), some (.int c), some (.int (nI tq)), some (.int (Gh f0 c tq)), some (.int (nI tq)), some (.int (Gh f0 c tq))]) dX6_time_69 (by decide) rfl ?_
      refine xg_iinc (pc := 70) (y := nI (tq + 1)) (ls' := [some (.ref 0), some (.int c), some (.int (nI tq)), some (.int (Gh f0 c tq)), some (.int (nI (tq + 1))), some (.int (Gh f0 c tq))]) dX6_time_70 rfl (xinc _) (by decide) rfl ?_
      refine xg_goto (pc := 73) (tgt := 32) dX6_time_73 (by decide) ?_
      have e1 : amx (Gh f0 c) (-1) 0 (tq + 1) = (Gh f0 c tq, nI tq) := if_pos (Int32.not_le.mp c_61)
      have z := ih (tq + 1) (by omega)
      rw [e1] at z
      exact z _ _ (by rw [upd_upd]; exact lg)
set_option maxRecDepth 100000 in
set_option maxHeartbeats 4000000 in
theorem ev_X6_time {c : Int32} (okp : okP f0) : xEv X false (d + 4) 0 0 mX6_time [.ref 0, .int c] (hp (tri f0 f1 f2) o mf wf q) (CQ f2 o mf wf q (sp_time f0 (amx (Gh f0 c) (-1) 0 24).2 c)) := by
  have ok := okp.1.1
  have h8 := ok.2.1
  have h5 := ok.2.2.2
  refine xEv.of (ls := [some (.ref 0), some (.int c), none, none, none, none]) mcX6_time.1.2.2.2.2 (Nat.le_of_ble_eq_true rfl) rfl ?_
  refine xg_iload_n (pc := 0) dX6_time_0 rfl ?_
  refine xg_csI (pc := 1) (h1 := hp (tri f0 f1 f2) o mf wf q) (x := if 0 ≤ c ∧ c ≤ 47 then 1 else 0) (M' := mX6_isCell) dX6_time_1 lkX6_69 mcX6_isCell (ev_X6_isCell) rfl rfl (Nat.le_of_ble_eq_true rfl) ?_
  refine xg_bnz (pc := 4) (tgt := 14) dX6_time_4 (by decide) (fun c_4 => ?_) (fun c_4 => ?_)
  ·
    refine xg_aload_n (pc := 14) dX6_time_14 rfl ?_
    refine xg_get (pc := 15) dX6_time_15 flX6_16 hp_0 rfl ?_
    refine xg_aload_n (pc := 18) dX6_time_18 rfl ?_
    refine xg_get (pc := 19) dX6_time_19 flX6_10 hp_0 rfl ?_
    refine xg_cvV (pc := 22) (h1 := hp (tri f0 (bcF f0 f1) f2) o mf wf q) (M' := mX1_become) dX6_time_22 lkX6_188 mcX1_become (hp_lake1 ) rfl (ev_bec_10 okp.1.1) rfl rfl (Nat.le_of_ble_eq_true rfl) ?_
    generalize hg1 : bcF f0 f1 = g1
    have lg : lvE f0 g1 := hg1 ▸ bcF_lv okp.h8
    refine xg_iconst (v := 0) (pc := 25) dX6_time_25 (by decide) ?_
    refine xg_istore_n (pc := 26) (ls' := [some (.ref 0), some (.int c), some (.int 0), none, none, none]) dX6_time_26 (by decide) rfl ?_
    refine xg_iconst (v := -1) (pc := 27) dX6_time_27 (by decide) ?_
    refine xg_istore_n (pc := 28) (ls' := [some (.ref 0), some (.int c), some (.int 0), some (.int (-1)), none, none]) dX6_time_28 (by decide) rfl ?_
    refine xg_iconst (v := 0) (pc := 29) dX6_time_29 (by decide) ?_
    refine xg_istore (pc := 30) (ls' := [some (.ref 0), some (.int c), some (.int 0), some (.int (-1)), some (.int 0), none]) dX6_time_30 (by decide) rfl ?_
    rw [show sp_time f0 (amx (Gh f0 c) (-1) 0 24).2 c = ((amx (Gh f0 c) (-1) 0 24).2, none, f0) from if_pos c_4]
    exact lp_X6_time okp c_4 24 0 rfl _ _ (by rw [← lg 0 (by omega), upd_id]; exact lg)
  ·
    refine xg_aload_n (pc := 7) dX6_time_7 rfl ?_
    refine xg_ldc (v := -1000000001) (pc := 8) dX6_time_8 ccX6_64 ?_
    refine xg_cvI (pc := 10) (h1 := hp (tri f0 f1 f2) (o.1, upd o.2.1 0 (o.2.1 0 + 1), o.2.2.1, o.2.2.2.1, o.2.2.2.2.1, o.2.2.2.2.2.1, o.2.2.2.2.2.2.1, o.2.2.2.2.2.2.2.1, o.2.2.2.2.2.2.2.2.1, o.2.2.2.2.2.2.2.2.2.1, o.2.2.2.2.2.2.2.2.2.2) mf wf q) (x := -1000000001) (M' := mX6_finding) dX6_time_10 lkX6_65 mcX6_finding hp_0 rfl (ev_X6_finding (j := 0) (by decide) (by decide)) rfl rfl (Nat.le_of_ble_eq_true rfl) ?_
    exact xg_iret (pc := 13) dX6_time_13 rfl (cqR (j := (some 0)) (by unfold sp_time; refine (if_neg (by exact c_4)).trans ?_; first | (with_reducible rfl) | (simp only [*, ix_0, ix_1, ix_2, ix_3, ix_4]; done) | (simp [*, ix_0, ix_1, ix_2, ix_3, ix_4]; done) | rfl | (simp_all [ix_0, ix_1, ix_2, ix_3, ix_4]; done)))
end
