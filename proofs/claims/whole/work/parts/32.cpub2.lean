section
variable {X : xS} {d : Nat} {o : xO} {mf wf : Nat → Int32} {q : xQ} {f0 f1 f2 : Nat → Int32}
set_option maxRecDepth 100000 in
set_option maxHeartbeats 4000000 in
theorem ev_X6_on {b n w : Int32} (okp : okP f0) : xEv X false (d + 7) 0 0 mX6_on [.ref 0, .int b, .int n, .int w] (hp (tri f0 f1 f2) o mf wf q) (CQ f2 o mf wf q (sp_on f0 (hsC (ix n) f0) b n w)) := by
  have ok := okp.1.1
  have h8 := ok.2.1
  have h5 := ok.2.2.2
  refine xEv.of (ls := [some (.ref 0), some (.int b), some (.int n), some (.int w)]) mcX6_on.1.2.2.2.2 (Nat.le_of_ble_eq_true rfl) rfl ?_
  refine xg_aload_n (pc := 0) dX6_on_0 rfl ?_
  refine xg_iload_n (pc := 1) dX6_on_1 rfl ?_
  refine xg_cvI (pc := 2) (h1 := hp (tri f0 f1 f2) o mf wf q) (x := if 0 ≤ b ∧ b < f0 4 then 1 else 0) (M' := mX6_isBoat) dX6_on_2 lkX6_147 mcX6_isBoat hp_0 rfl (ev_X6_isBoat) rfl rfl (Nat.le_of_ble_eq_true rfl) ?_
  refine xg_bz (pc := 5) (tgt := 27) dX6_on_5 (by decide) (fun c_5 => ?_) (fun c_5 => ?_)
  ·
    refine xg_aload_n (pc := 27) dX6_on_27 rfl ?_
    refine xg_ldc (v := -1000000001) (pc := 28) dX6_on_28 ccX6_64 ?_
    refine xg_cvI (pc := 30) (h1 := hp (tri f0 f1 f2) (o.1, upd o.2.1 0 (o.2.1 0 + 1), o.2.2.1, o.2.2.2.1, o.2.2.2.2.1, o.2.2.2.2.2.1, o.2.2.2.2.2.2.1, o.2.2.2.2.2.2.2.1, o.2.2.2.2.2.2.2.2.1, o.2.2.2.2.2.2.2.2.2.1, o.2.2.2.2.2.2.2.2.2.2) mf wf q) (x := -1000000001) (M' := mX6_finding) dX6_on_30 lkX6_65 mcX6_finding hp_0 rfl (ev_X6_finding (j := 0) (by decide) (by decide)) rfl rfl (Nat.le_of_ble_eq_true rfl) ?_
    exact xg_iret (pc := 33) dX6_on_33 rfl (cqR (j := (some 0)) (by unfold sp_on; refine (if_neg (by first | exact ⟨c_5, c_15, c_24⟩ | exact (fun q => c_5 q.1) | exact (fun q => c_15 q.2.1) | exact (fun q => c_24 q.2.2))).trans ?_; first | (with_reducible rfl) | (simp only [*, ix_0, ix_1, ix_2, ix_3, ix_4]; done) | (simp [*, ix_0, ix_1, ix_2, ix_3, ix_4]; done) | rfl | (simp_all [ix_0, ix_1, ix_2, ix_3, ix_4]; done)))
  ·
    refine xg_iload_n (pc := 8) dX6_on_8 rfl ?_
    refine xg_iconst (v := 0) (pc := 9) dX6_on_9 (by decide) ?_
    refine xg_bipush (v := 72) (pc := 10) dX6_on_10 (by decide) ?_
    refine xg_csI (pc := 12) (h1 := hp (tri f0 f1 f2) o mf wf q) (x := if 0 ≤ n ∧ n ≤ 72 then 1 else 0) (M' := mX6_isWithin) dX6_on_12 lkX6_53 mcX6_isWithin (ev_X6_isWithin) rfl rfl (Nat.le_of_ble_eq_true rfl) ?_
    refine xg_bz (pc := 15) (tgt := 27) dX6_on_15 (by decide) (fun c_15 => ?_) (fun c_15 => ?_)
    ·
      refine xg_aload_n (pc := 27) dX6_on_27 rfl ?_
      refine xg_ldc (v := -1000000001) (pc := 28) dX6_on_28 ccX6_64 ?_
      refine xg_cvI (pc := 30) (h1 := hp (tri f0 f1 f2) (o.1, upd o.2.1 0 (o.2.1 0 + 1), o.2.2.1, o.2.2.2.1, o.2.2.2.2.1, o.2.2.2.2.2.1, o.2.2.2.2.2.2.1, o.2.2.2.2.2.2.2.1, o.2.2.2.2.2.2.2.2.1, o.2.2.2.2.2.2.2.2.2.1, o.2.2.2.2.2.2.2.2.2.2) mf wf q) (x := -1000000001) (M' := mX6_finding) dX6_on_30 lkX6_65 mcX6_finding hp_0 rfl (ev_X6_finding (j := 0) (by decide) (by decide)) rfl rfl (Nat.le_of_ble_eq_true rfl) ?_
      exact xg_iret (pc := 33) dX6_on_33 rfl (cqR (j := (some 0)) (by unfold sp_on; refine (if_neg (by first | exact ⟨c_5, c_15, c_24⟩ | exact (fun q => c_5 q.1) | exact (fun q => c_15 q.2.1) | exact (fun q => c_24 q.2.2))).trans ?_; first | (with_reducible rfl) | (simp only [*, ix_0, ix_1, ix_2, ix_3, ix_4]; done) | (simp [*, ix_0, ix_1, ix_2, ix_3, ix_4]; done) | rfl | (simp_all [ix_0, ix_1, ix_2, ix_3, ix_4]; done)))
    ·
      refine xg_iload_n (pc := 18) dX6_on_18 rfl ?_
      refine xg_iconst (v := 0) (pc := 19) dX6_on_19 (by decide) ?_
      refine xg_iconst (v := 1) (pc := 20) dX6_on_20 (by decide) ?_
      refine xg_csI (pc := 21) (h1 := hp (tri f0 f1 f2) o mf wf q) (x := if 0 ≤ w ∧ w ≤ 1 then 1 else 0) (M' := mX6_isWithin) dX6_on_21 lkX6_53 mcX6_isWithin (ev_X6_isWithin) rfl rfl (Nat.le_of_ble_eq_true rfl) ?_
      refine xg_bnz (pc := 24) (tgt := 34) dX6_on_24 (by decide) (fun c_24 => ?_) (fun c_24 => ?_)
      ·
        obtain ⟨bn, hbn, rfl⟩ := idxB ok c_5
        have ebn : ix (nI bn) = bn := nI_clamp (by omega)
        obtain ⟨nn, hnn, rfl⟩ := rngN (n := 72) c_15 (by decide)
        have enn : ix (nI nn) = nn := nI_clamp (by omega)
        refine xg_aload_n (pc := 34) dX6_on_34 rfl ?_
        refine xg_get (pc := 35) dX6_on_35 flX6_16 hp_0 rfl ?_
        refine xg_aload_n (pc := 38) dX6_on_38 rfl ?_
        refine xg_get (pc := 39) dX6_on_39 flX6_10 hp_0 rfl ?_
        refine xg_cvV (pc := 42) (h1 := hp (tri f0 (bcF f0 f1) f2) o mf wf q) (M' := mX1_become) dX6_on_42 lkX6_188 mcX1_become (hp_lake1 ) rfl (ev_bec_10 okp.1.1) rfl rfl (Nat.le_of_ble_eq_true rfl) ?_
        generalize hg1 : bcF f0 f1 = g1
        have lg : lvE f0 g1 := hg1 ▸ bcF_lv okp.h8
        refine xg_aload_n (pc := 45) dX6_on_45 rfl ?_
        refine xg_get (pc := 46) dX6_on_46 flX6_16 hp_0 rfl ?_
        refine xg_iload_n (pc := 49) dX6_on_49 rfl ?_
        refine xg_cvV (pc := 50) (h1 := hp (tri f0 (hsC nn g1) f2) o mf wf q) (M' := mX1_passHours) dX6_on_50 lkX6_172 mcX1_passHours (hp_lake1 ) rfl (ev1_X1_passHours (n := nn) (lg.okM okp.1) (by omega)) rfl rfl (Nat.le_of_ble_eq_true rfl) ?_
        refine xg_iload_n (pc := 53) dX6_on_53 rfl ?_
        refine xg_if_ne (pc := 54) (tgt := 72) dX6_on_54 (by decide) (fun c_54 => ?_) (fun c_54 => ?_)
        ·
          refine xg_aload_n (pc := 72) dX6_on_72 rfl ?_
          refine xg_get (pc := 73) dX6_on_73 flX6_16 hp_0 rfl ?_
          refine xg_get (pc := 76) dX6_on_76 flX6_150 (hp_lake1 ) rfl ?_
          refine xg_iload_n (pc := 79) dX6_on_79 rfl ?_
          refine xg_aald (pc := 80) (r := 12 + 16 * 1 + bn) bn dX6_on_80 (hp_barr1 ) (by decide) rfl (by omega) (by decide) (if_pos (by omega)) ?_
          refine xg_get (pc := 81) dX6_on_81 flX6_165 (hp_boat1  (by omega)) rfl ?_
          refine xg_eq (hs_b okp lg hbn (by decide)) ?_
          exact xg_iret (pc := 84) dX6_on_84 rfl (cqR (j := none) (by unfold sp_on; refine (if_pos (by first | exact ⟨c_5, c_15, c_24⟩ | exact (fun q => c_5 q.1) | exact (fun q => c_15 q.2.1) | exact (fun q => c_24 q.2.2))).trans ?_; first | (with_reducible rfl) | (simp only [*, ix_0, ix_1, ix_2, ix_3, ix_4]; done) | (simp [*, ix_0, ix_1, ix_2, ix_3, ix_4]; done) | rfl | (simp_all [ix_0, ix_1, ix_2, ix_3, ix_4]; done)))
        ·
          refine xg_aload_n (pc := 57) dX6_on_57 rfl ?_
          refine xg_get (pc := 58) dX6_on_58 flX6_16 hp_0 rfl ?_
          refine xg_get (pc := 61) dX6_on_61 flX6_150 (hp_lake1 ) rfl ?_
          refine xg_iload_n (pc := 64) dX6_on_64 rfl ?_
          refine xg_aald (pc := 65) (r := 12 + 16 * 1 + bn) bn dX6_on_65 (hp_barr1 ) (by decide) rfl (by omega) (by decide) (if_pos (by omega)) ?_
          refine xg_get (pc := 66) dX6_on_66 flX6_162 (hp_boat1  (by omega)) rfl ?_
          refine xg_eq (hs_b okp lg hbn (by decide)) ?_
          refine xg_goto (pc := 69) (tgt := 84) dX6_on_69 (by decide) ?_
          exact xg_iret (pc := 84) dX6_on_84 rfl (cqR (j := none) (by unfold sp_on; refine (if_pos (by first | exact ⟨c_5, c_15, c_24⟩ | exact (fun q => c_5 q.1) | exact (fun q => c_15 q.2.1) | exact (fun q => c_24 q.2.2))).trans ?_; first | (with_reducible rfl) | (simp only [*, ix_0, ix_1, ix_2, ix_3, ix_4]; done) | (simp [*, ix_0, ix_1, ix_2, ix_3, ix_4]; done) | rfl | (simp_all [ix_0, ix_1, ix_2, ix_3, ix_4]; done)))
      ·
        refine xg_aload_n (pc := 27) dX6_on_27 rfl ?_
        refine xg_ldc (v := -1000000001) (pc := 28) dX6_on_28 ccX6_64 ?_
        refine xg_cvI (pc := 30) (h1 := hp (tri f0 f1 f2) (o.1, upd o.2.1 0 (o.2.1 0 + 1), o.2.2.1, o.2.2.2.1, o.2.2.2.2.1, o.2.2.2.2.2.1, o.2.2.2.2.2.2.1, o.2.2.2.2.2.2.2.1, o.2.2.2.2.2.2.2.2.1, o.2.2.2.2.2.2.2.2.2.1, o.2.2.2.2.2.2.2.2.2.2) mf wf q) (x := -1000000001) (M' := mX6_finding) dX6_on_30 lkX6_65 mcX6_finding hp_0 rfl (ev_X6_finding (j := 0) (by decide) (by decide)) rfl rfl (Nat.le_of_ble_eq_true rfl) ?_
        exact xg_iret (pc := 33) dX6_on_33 rfl (cqR (j := (some 0)) (by unfold sp_on; refine (if_neg (by first | exact ⟨c_5, c_15, c_24⟩ | exact (fun q => c_5 q.1) | exact (fun q => c_15 q.2.1) | exact (fun q => c_24 q.2.2))).trans ?_; first | (with_reducible rfl) | (simp only [*, ix_0, ix_1, ix_2, ix_3, ix_4]; done) | (simp [*, ix_0, ix_1, ix_2, ix_3, ix_4]; done) | rfl | (simp_all [ix_0, ix_1, ix_2, ix_3, ix_4]; done)))
set_option maxRecDepth 100000 in
set_option maxHeartbeats 4000000 in
theorem ev_X6_light {t n : Int32} (okp : okP f0) : xEv X false (d + 7) 0 0 mX6_light [.ref 0, .int t, .int n] (hp (tri f0 f1 f2) o mf wf q) (CQ f2 o mf wf q (sp_light f0 (hsC (ix n) f0) t n)) := by
  have ok := okp.1.1
  have h8 := ok.2.1
  have h5 := ok.2.2.2
  refine xEv.of (ls := [some (.ref 0), some (.int t), some (.int n)]) mcX6_light.1.2.2.2.2 (Nat.le_of_ble_eq_true rfl) rfl ?_
  refine xg_aload_n (pc := 0) dX6_light_0 rfl ?_
  refine xg_iload_n (pc := 1) dX6_light_1 rfl ?_
  refine xg_cvI (pc := 2) (h1 := hp (tri f0 f1 f2) o mf wf q) (x := if 0 ≤ t ∧ t < f0 3 then 1 else 0) (M' := mX6_isThing) dX6_light_2 lkX6_99 mcX6_isThing hp_0 rfl (ev_X6_isThing) rfl rfl (Nat.le_of_ble_eq_true rfl) ?_
  refine xg_bz (pc := 5) (tgt := 18) dX6_light_5 (by decide) (fun c_5 => ?_) (fun c_5 => ?_)
  ·
    refine xg_aload_n (pc := 18) dX6_light_18 rfl ?_
    refine xg_ldc (v := -1000000001) (pc := 19) dX6_light_19 ccX6_64 ?_
    refine xg_cvI (pc := 21) (h1 := hp (tri f0 f1 f2) (o.1, upd o.2.1 0 (o.2.1 0 + 1), o.2.2.1, o.2.2.2.1, o.2.2.2.2.1, o.2.2.2.2.2.1, o.2.2.2.2.2.2.1, o.2.2.2.2.2.2.2.1, o.2.2.2.2.2.2.2.2.1, o.2.2.2.2.2.2.2.2.2.1, o.2.2.2.2.2.2.2.2.2.2) mf wf q) (x := -1000000001) (M' := mX6_finding) dX6_light_21 lkX6_65 mcX6_finding hp_0 rfl (ev_X6_finding (j := 0) (by decide) (by decide)) rfl rfl (Nat.le_of_ble_eq_true rfl) ?_
    exact xg_iret (pc := 24) dX6_light_24 rfl (cqR (j := (some 0)) (by unfold sp_light; refine (if_neg (by first | exact ⟨c_5, c_15⟩ | exact (fun q => c_5 q.1) | exact (fun q => c_15 q.2))).trans ?_; first | (with_reducible rfl) | (simp only [*, ix_0, ix_1, ix_2, ix_3, ix_4]; done) | (simp [*, ix_0, ix_1, ix_2, ix_3, ix_4]; done) | rfl | (simp_all [ix_0, ix_1, ix_2, ix_3, ix_4]; done)))
  ·
    refine xg_iload_n (pc := 8) dX6_light_8 rfl ?_
    refine xg_iconst (v := 0) (pc := 9) dX6_light_9 (by decide) ?_
    refine xg_bipush (v := 72) (pc := 10) dX6_light_10 (by decide) ?_
    refine xg_csI (pc := 12) (h1 := hp (tri f0 f1 f2) o mf wf q) (x := if 0 ≤ n ∧ n ≤ 72 then 1 else 0) (M' := mX6_isWithin) dX6_light_12 lkX6_53 mcX6_isWithin (ev_X6_isWithin) rfl rfl (Nat.le_of_ble_eq_true rfl) ?_
    refine xg_bnz (pc := 15) (tgt := 25) dX6_light_15 (by decide) (fun c_15 => ?_) (fun c_15 => ?_)
    ·
      obtain ⟨tn, htn, rfl⟩ := idxT ok c_5
      have etn : ix (nI tn) = tn := nI_clamp (by omega)
      obtain ⟨nn, hnn, rfl⟩ := rngN (n := 72) c_15 (by decide)
      have enn : ix (nI nn) = nn := nI_clamp (by omega)
      refine xg_aload_n (pc := 25) dX6_light_25 rfl ?_
      refine xg_get (pc := 26) dX6_light_26 flX6_16 hp_0 rfl ?_
      refine xg_aload_n (pc := 29) dX6_light_29 rfl ?_
      refine xg_get (pc := 30) dX6_light_30 flX6_10 hp_0 rfl ?_
      refine xg_cvV (pc := 33) (h1 := hp (tri f0 (bcF f0 f1) f2) o mf wf q) (M' := mX1_become) dX6_light_33 lkX6_188 mcX1_become (hp_lake1 ) rfl (ev_bec_10 okp.1.1) rfl rfl (Nat.le_of_ble_eq_true rfl) ?_
      generalize hg1 : bcF f0 f1 = g1
      have lg : lvE f0 g1 := hg1 ▸ bcF_lv okp.h8
      refine xg_aload_n (pc := 36) dX6_light_36 rfl ?_
      refine xg_get (pc := 37) dX6_light_37 flX6_16 hp_0 rfl ?_
      refine xg_iload_n (pc := 40) dX6_light_40 rfl ?_
      refine xg_cvV (pc := 41) (h1 := hp (tri f0 (hsC nn g1) f2) o mf wf q) (M' := mX1_passHours) dX6_light_41 lkX6_172 mcX1_passHours (hp_lake1 ) rfl (ev1_X1_passHours (n := nn) (lg.okM okp.1) (by omega)) rfl rfl (Nat.le_of_ble_eq_true rfl) ?_
      refine xg_aload_n (pc := 44) dX6_light_44 rfl ?_
      refine xg_get (pc := 45) dX6_light_45 flX6_16 hp_0 rfl ?_
      refine xg_get (pc := 48) dX6_light_48 flX6_102 (hp_lake1 ) rfl ?_
      refine xg_iload_n (pc := 51) dX6_light_51 rfl ?_
      refine xg_aald (pc := 52) (r := 3 + 16 * 1 + tn) tn dX6_light_52 (hp_tarr1 ) (by decide) rfl (by omega) (by decide) (if_pos (by omega)) ?_
      refine xg_get (pc := 53) dX6_light_53 flX6_117 (hp_thing1  (by omega)) rfl ?_
      refine xg_eq (hs_t okp lg htn (by decide)) ?_
      exact xg_iret (pc := 56) dX6_light_56 rfl (cqR (j := none) (by unfold sp_light; refine (if_pos (by first | exact ⟨c_5, c_15⟩ | exact (fun q => c_5 q.1) | exact (fun q => c_15 q.2))).trans ?_; first | (with_reducible rfl) | (simp only [*, ix_0, ix_1, ix_2, ix_3, ix_4]; done) | (simp [*, ix_0, ix_1, ix_2, ix_3, ix_4]; done) | rfl | (simp_all [ix_0, ix_1, ix_2, ix_3, ix_4]; done)))
    ·
      refine xg_aload_n (pc := 18) dX6_light_18 rfl ?_
      refine xg_ldc (v := -1000000001) (pc := 19) dX6_light_19 ccX6_64 ?_
      refine xg_cvI (pc := 21) (h1 := hp (tri f0 f1 f2) (o.1, upd o.2.1 0 (o.2.1 0 + 1), o.2.2.1, o.2.2.2.1, o.2.2.2.2.1, o.2.2.2.2.2.1, o.2.2.2.2.2.2.1, o.2.2.2.2.2.2.2.1, o.2.2.2.2.2.2.2.2.1, o.2.2.2.2.2.2.2.2.2.1, o.2.2.2.2.2.2.2.2.2.2) mf wf q) (x := -1000000001) (M' := mX6_finding) dX6_light_21 lkX6_65 mcX6_finding hp_0 rfl (ev_X6_finding (j := 0) (by decide) (by decide)) rfl rfl (Nat.le_of_ble_eq_true rfl) ?_
      exact xg_iret (pc := 24) dX6_light_24 rfl (cqR (j := (some 0)) (by unfold sp_light; refine (if_neg (by first | exact ⟨c_5, c_15⟩ | exact (fun q => c_5 q.1) | exact (fun q => c_15 q.2))).trans ?_; first | (with_reducible rfl) | (simp only [*, ix_0, ix_1, ix_2, ix_3, ix_4]; done) | (simp [*, ix_0, ix_1, ix_2, ix_3, ix_4]; done) | rfl | (simp_all [ix_0, ix_1, ix_2, ix_3, ix_4]; done)))
end
