section
variable {X : xS} {d : Nat} {lk : Nat → Nat → Int32} {o : xO} {mf wf : Nat → Int32} {q : xQ}
theorem ev_goC {n : Nat} (okp : okP mf) (hn : n < 2 ^ 31) : xDv X false (d + 7) mX7_goesOn [.ref 62, .int (nI n)] (hp lk o mf wf q) [] (hp lk o (hsC n mf) wf q) :=
  (ev_X7_goesOn okp.1 hn).eq rfl (by rw [(hs_P okp).1])
theorem ev_hrC (okp : okP mf) : xDv X false (d + 6) mX7_hour [.ref 62] (hp lk o mf wf q) [] (hp lk o (hrC mf) wf q) :=
  (ev_X7_hour okp.1).eq rfl (by rw [(hr_P okp).1])
theorem ev_orN {v : Int32} : xDv X false (d + 1) mX7_orNone [.ref 62, .int v] (hp lk o mf wf q) [.int (if v < 0 then -1000000004 else v)] (hp lk o mf wf (fnQ q (if v < 0 then some 3 else none))) := by
  by_cases hv : v < 0
  · rw [if_pos hv, if_pos hv]; exact ev_X7_orNone_neg hv
  · rw [if_neg hv, if_neg hv]; exact ev_X7_orNone_pos hv
set_option maxRecDepth 100000 in
set_option maxHeartbeats 4000000 in
theorem ev_X7_on {b n w : Int32} (okp : okP mf) : xEv X false (d + 8) 0 0 mX7_on [.ref 62, .int b, .int n, .int w] (hp lk o mf wf q) (RQ lk o q (sp_on mf (hsC (ix n) mf) b n w)) := by
  have ok := okp.1.1
  have h8 := ok.2.1
  have h5 := ok.2.2.2
  refine xEv.of (ls := [some (.ref 62), some (.int b), some (.int n), some (.int w), none]) mcX7_on.1.2.2.2.2 (Nat.le_of_ble_eq_true rfl) rfl ?_
  refine xg_aload_n (pc := 0) dX7_on_0 rfl ?_
  refine xg_iload_n (pc := 1) dX7_on_1 rfl ?_
  refine xg_cvI (pc := 2) (h1 := hp lk o mf wf q) (x := if 0 ≤ b ∧ b < mf 4 then 1 else 0) (M' := mX7_isBoat) dX7_on_2 lkX7_117 mcX7_isBoat hp_62 rfl (ev_isB ok) rfl rfl (Nat.le_of_ble_eq_true rfl) ?_
  refine xg_bz (pc := 5) (tgt := 29) dX7_on_5 (by decide) (fun c_5 => ?_) (fun c_5 => ?_)
  ·
    refine xg_aload_n (pc := 29) dX7_on_29 rfl ?_
    refine xg_ldc (v := -1000000001) (pc := 30) dX7_on_30 ccX7_42 ?_
    refine xg_cvI (pc := 32) (h1 := hp lk o mf wf (q.1, q.2.1, upd q.2.2.1 0 (q.2.2.1 0 + 1), q.2.2.2.1, q.2.2.2.2.1, q.2.2.2.2.2.1, q.2.2.2.2.2.2.1, q.2.2.2.2.2.2.2.1, q.2.2.2.2.2.2.2.2.1, q.2.2.2.2.2.2.2.2.2.1, q.2.2.2.2.2.2.2.2.2.2.1, q.2.2.2.2.2.2.2.2.2.2.2.1, q.2.2.2.2.2.2.2.2.2.2.2.2.1, q.2.2.2.2.2.2.2.2.2.2.2.2.2.1, q.2.2.2.2.2.2.2.2.2.2.2.2.2.2)) (x := -1000000001) (M' := mX7_finds) dX7_on_32 lkX7_44 mcX7_finds hp_62 rfl (ev_X7_finds (j := 0) (by decide) (by decide)) rfl rfl (Nat.le_of_ble_eq_true rfl) ?_
    exact xg_iret (pc := 35) dX7_on_35 rfl (rqR (j := (some 0)) (g := mf) (by unfold sp_on; refine (if_neg (by first | exact ⟨c_5, c_16, c_26⟩ | exact (fun q => c_5 q.1) | exact (fun q => c_16 q.2.1) | exact (fun q => c_26 q.2.2))).trans ?_; first | (with_reducible rfl) | (simp only [*, ix_0, ix_1, ix_2, ix_3, ix_4]; done) | (simp [*, ix_0, ix_1, ix_2, ix_3, ix_4]; done) | rfl | (simp_all [ix_0, ix_1, ix_2, ix_3, ix_4]; done)) (by first | exact eq65.rf | exact eq65_cp))
  ·
    refine xg_iload_n (pc := 8) dX7_on_8 rfl ?_
    refine xg_i2l (pc := 9) dX7_on_9 ?_
    refine xg_iconst (v := 0) (pc := 10) dX7_on_10 (by decide) ?_
    refine xg_bipush (v := 72) (pc := 11) dX7_on_11 (by decide) ?_
    refine xg_csI (pc := 13) (h1 := hp lk o mf wf q) (x := if 0 ≤ n ∧ n ≤ 72 then 1 else 0) (M' := mX7_in) dX7_on_13 lkX7_48 mcX7_in (ev_in) rfl rfl (Nat.le_of_ble_eq_true rfl) ?_
    refine xg_bz (pc := 16) (tgt := 29) dX7_on_16 (by decide) (fun c_16 => ?_) (fun c_16 => ?_)
    ·
      refine xg_aload_n (pc := 29) dX7_on_29 rfl ?_
      refine xg_ldc (v := -1000000001) (pc := 30) dX7_on_30 ccX7_42 ?_
      refine xg_cvI (pc := 32) (h1 := hp lk o mf wf (q.1, q.2.1, upd q.2.2.1 0 (q.2.2.1 0 + 1), q.2.2.2.1, q.2.2.2.2.1, q.2.2.2.2.2.1, q.2.2.2.2.2.2.1, q.2.2.2.2.2.2.2.1, q.2.2.2.2.2.2.2.2.1, q.2.2.2.2.2.2.2.2.2.1, q.2.2.2.2.2.2.2.2.2.2.1, q.2.2.2.2.2.2.2.2.2.2.2.1, q.2.2.2.2.2.2.2.2.2.2.2.2.1, q.2.2.2.2.2.2.2.2.2.2.2.2.2.1, q.2.2.2.2.2.2.2.2.2.2.2.2.2.2)) (x := -1000000001) (M' := mX7_finds) dX7_on_32 lkX7_44 mcX7_finds hp_62 rfl (ev_X7_finds (j := 0) (by decide) (by decide)) rfl rfl (Nat.le_of_ble_eq_true rfl) ?_
      exact xg_iret (pc := 35) dX7_on_35 rfl (rqR (j := (some 0)) (g := mf) (by unfold sp_on; refine (if_neg (by first | exact ⟨c_5, c_16, c_26⟩ | exact (fun q => c_5 q.1) | exact (fun q => c_16 q.2.1) | exact (fun q => c_26 q.2.2))).trans ?_; first | (with_reducible rfl) | (simp only [*, ix_0, ix_1, ix_2, ix_3, ix_4]; done) | (simp [*, ix_0, ix_1, ix_2, ix_3, ix_4]; done) | rfl | (simp_all [ix_0, ix_1, ix_2, ix_3, ix_4]; done)) (by first | exact eq65.rf | exact eq65_cp))
    ·
      refine xg_iload_n (pc := 19) dX7_on_19 rfl ?_
      refine xg_i2l (pc := 20) dX7_on_20 ?_
      refine xg_iconst (v := 0) (pc := 21) dX7_on_21 (by decide) ?_
      refine xg_iconst (v := 1) (pc := 22) dX7_on_22 (by decide) ?_
      refine xg_csI (pc := 23) (h1 := hp lk o mf wf q) (x := if 0 ≤ w ∧ w ≤ 1 then 1 else 0) (M' := mX7_in) dX7_on_23 lkX7_48 mcX7_in (ev_in) rfl rfl (Nat.le_of_ble_eq_true rfl) ?_
      refine xg_bnz (pc := 26) (tgt := 36) dX7_on_26 (by decide) (fun c_26 => ?_) (fun c_26 => ?_)
      ·
        obtain ⟨bn, hbn, rfl⟩ := idxB ok c_5
        have ebn : ix (nI bn) = bn := nI_clamp (by omega)
        obtain ⟨nn, hnn, rfl⟩ := rngN (n := 72) c_16 (by decide)
        have enn : ix (nI nn) = nn := nI_clamp (by omega)
        refine xg_aload_n (pc := 36) dX7_on_36 rfl ?_
        refine xg_cvV (pc := 37) (h1 := hp lk o mf (cpF 65 mf wf) q) (M' := mX7_thinks) dX7_on_37 lkX7_147 mcX7_thinks hp_62 rfl (ev_X7_thinks) rfl rfl (Nat.le_of_ble_eq_true rfl) ?_
        rcases w01 c_26 with rfl | rfl
        ·
          refine xg_aload_n (pc := 40) dX7_on_40 rfl ?_
          refine xg_iload_n (pc := 41) dX7_on_41 rfl ?_
          refine xg_cvV (pc := 42) (h1 := hp lk o (hsC nn mf) (cpF 65 mf wf) q) (M' := mX7_goesOn) dX7_on_42 lkX7_137 mcX7_goesOn hp_62 rfl (ev_goC (n := nn) okp (by omega)) rfl rfl (Nat.le_of_ble_eq_true rfl) ?_
          refine xg_aload_n (pc := 45) dX7_on_45 rfl ?_
          refine xg_iload_n (pc := 46) dX7_on_46 rfl ?_
          refine xg_iconst (v := 2) (pc := 47) dX7_on_47 (by decide) ?_
          refine xg_iload_n (pc := 48) dX7_on_48 rfl ?_
          refine xg_iadd (pc := 49) dX7_on_49 ?_
          refine xg_cvI (pc := 50) (h1 := hp lk o (hsC nn mf) (cpF 65 mf wf) q) (x := (hsC nn mf) (45 + 4 * bn + 2 + 0)) (M' := mX7_has) dX7_on_50 lkX7_77 mcX7_has hp_62 rfl (ev_X7_has (j := bn) (w := 2 + 0) (by omega)) rfl rfl (Nat.le_of_ble_eq_true rfl) ?_
          refine xg_istore (pc := 53) (ls' := [some (.ref 62), some (.int (nI bn)), some (.int (nI nn)), some (.int 0), some (.int ((hsC nn mf) (45 + 4 * bn + 2 + 0)))]) dX7_on_53 (by decide) rfl ?_
          refine xg_aload_n (pc := 55) dX7_on_55 rfl ?_
          refine xg_cvV (pc := 56) (h1 := hp lk o (cpF 65 (cpF 65 mf wf) (hsC nn mf)) (cpF 65 mf wf) q) (M' := mX7_putsBack) dX7_on_56 lkX7_150 mcX7_putsBack hp_62 rfl (ev_X7_putsBack) rfl rfl (Nat.le_of_ble_eq_true rfl) ?_
          refine xg_iload (pc := 59) dX7_on_59 rfl ?_
          exact xg_iret (pc := 61) dX7_on_61 rfl (rqR (j := none) (g := mf) (by unfold sp_on; refine (if_pos (by first | exact ⟨c_5, c_16, c_26⟩ | exact (fun q => c_5 q.1) | exact (fun q => c_16 q.2.1) | exact (fun q => c_26 q.2.2))).trans ?_; first | (with_reducible rfl) | (simp only [*, ix_0, ix_1, ix_2, ix_3, ix_4]; done) | (simp [*, ix_0, ix_1, ix_2, ix_3, ix_4]; done) | rfl | (simp_all [ix_0, ix_1, ix_2, ix_3, ix_4]; done)) (by first | exact eq65.rf | exact eq65_cp))
        ·
          refine xg_aload_n (pc := 40) dX7_on_40 rfl ?_
          refine xg_iload_n (pc := 41) dX7_on_41 rfl ?_
          refine xg_cvV (pc := 42) (h1 := hp lk o (hsC nn mf) (cpF 65 mf wf) q) (M' := mX7_goesOn) dX7_on_42 lkX7_137 mcX7_goesOn hp_62 rfl (ev_goC (n := nn) okp (by omega)) rfl rfl (Nat.le_of_ble_eq_true rfl) ?_
          refine xg_aload_n (pc := 45) dX7_on_45 rfl ?_
          refine xg_iload_n (pc := 46) dX7_on_46 rfl ?_
          refine xg_iconst (v := 2) (pc := 47) dX7_on_47 (by decide) ?_
          refine xg_iload_n (pc := 48) dX7_on_48 rfl ?_
          refine xg_iadd (pc := 49) dX7_on_49 ?_
          refine xg_cvI (pc := 50) (h1 := hp lk o (hsC nn mf) (cpF 65 mf wf) q) (x := (hsC nn mf) (45 + 4 * bn + 2 + 1)) (M' := mX7_has) dX7_on_50 lkX7_77 mcX7_has hp_62 rfl (ev_X7_has (j := bn) (w := 2 + 1) (by omega)) rfl rfl (Nat.le_of_ble_eq_true rfl) ?_
          refine xg_istore (pc := 53) (ls' := [some (.ref 62), some (.int (nI bn)), some (.int (nI nn)), some (.int 1), some (.int ((hsC nn mf) (45 + 4 * bn + 2 + 1)))]) dX7_on_53 (by decide) rfl ?_
          refine xg_aload_n (pc := 55) dX7_on_55 rfl ?_
          refine xg_cvV (pc := 56) (h1 := hp lk o (cpF 65 (cpF 65 mf wf) (hsC nn mf)) (cpF 65 mf wf) q) (M' := mX7_putsBack) dX7_on_56 lkX7_150 mcX7_putsBack hp_62 rfl (ev_X7_putsBack) rfl rfl (Nat.le_of_ble_eq_true rfl) ?_
          refine xg_iload (pc := 59) dX7_on_59 rfl ?_
          exact xg_iret (pc := 61) dX7_on_61 rfl (rqR (j := none) (g := mf) (by unfold sp_on; refine (if_pos (by first | exact ⟨c_5, c_16, c_26⟩ | exact (fun q => c_5 q.1) | exact (fun q => c_16 q.2.1) | exact (fun q => c_26 q.2.2))).trans ?_; first | (with_reducible rfl) | (simp only [*, ix_0, ix_1, ix_2, ix_3, ix_4]; done) | (simp [*, ix_0, ix_1, ix_2, ix_3, ix_4]; done) | rfl | (simp_all [ix_0, ix_1, ix_2, ix_3, ix_4]; done)) (by first | exact eq65.rf | exact eq65_cp))
      ·
        refine xg_aload_n (pc := 29) dX7_on_29 rfl ?_
        refine xg_ldc (v := -1000000001) (pc := 30) dX7_on_30 ccX7_42 ?_
        refine xg_cvI (pc := 32) (h1 := hp lk o mf wf (q.1, q.2.1, upd q.2.2.1 0 (q.2.2.1 0 + 1), q.2.2.2.1, q.2.2.2.2.1, q.2.2.2.2.2.1, q.2.2.2.2.2.2.1, q.2.2.2.2.2.2.2.1, q.2.2.2.2.2.2.2.2.1, q.2.2.2.2.2.2.2.2.2.1, q.2.2.2.2.2.2.2.2.2.2.1, q.2.2.2.2.2.2.2.2.2.2.2.1, q.2.2.2.2.2.2.2.2.2.2.2.2.1, q.2.2.2.2.2.2.2.2.2.2.2.2.2.1, q.2.2.2.2.2.2.2.2.2.2.2.2.2.2)) (x := -1000000001) (M' := mX7_finds) dX7_on_32 lkX7_44 mcX7_finds hp_62 rfl (ev_X7_finds (j := 0) (by decide) (by decide)) rfl rfl (Nat.le_of_ble_eq_true rfl) ?_
        exact xg_iret (pc := 35) dX7_on_35 rfl (rqR (j := (some 0)) (g := mf) (by unfold sp_on; refine (if_neg (by first | exact ⟨c_5, c_16, c_26⟩ | exact (fun q => c_5 q.1) | exact (fun q => c_16 q.2.1) | exact (fun q => c_26 q.2.2))).trans ?_; first | (with_reducible rfl) | (simp only [*, ix_0, ix_1, ix_2, ix_3, ix_4]; done) | (simp [*, ix_0, ix_1, ix_2, ix_3, ix_4]; done) | rfl | (simp_all [ix_0, ix_1, ix_2, ix_3, ix_4]; done)) (by first | exact eq65.rf | exact eq65_cp))
set_option maxRecDepth 100000 in
set_option maxHeartbeats 4000000 in
theorem ev_X7_light {t n : Int32} (okp : okP mf) : xEv X false (d + 8) 0 0 mX7_light [.ref 62, .int t, .int n] (hp lk o mf wf q) (RQ lk o q (sp_light mf (hsC (ix n) mf) t n)) := by
  have ok := okp.1.1
  have h8 := ok.2.1
  have h5 := ok.2.2.2
  refine xEv.of (ls := [some (.ref 62), some (.int t), some (.int n), none]) mcX7_light.1.2.2.2.2 (Nat.le_of_ble_eq_true rfl) rfl ?_
  refine xg_aload_n (pc := 0) dX7_light_0 rfl ?_
  refine xg_iload_n (pc := 1) dX7_light_1 rfl ?_
  refine xg_cvI (pc := 2) (h1 := hp lk o mf wf q) (x := if 0 ≤ t ∧ t < mf 3 then 1 else 0) (M' := mX7_isThing) dX7_light_2 lkX7_106 mcX7_isThing hp_62 rfl (ev_isT ok) rfl rfl (Nat.le_of_ble_eq_true rfl) ?_
  refine xg_bz (pc := 5) (tgt := 19) dX7_light_5 (by decide) (fun c_5 => ?_) (fun c_5 => ?_)
  ·
    refine xg_aload_n (pc := 19) dX7_light_19 rfl ?_
    refine xg_ldc (v := -1000000001) (pc := 20) dX7_light_20 ccX7_42 ?_
    refine xg_cvI (pc := 22) (h1 := hp lk o mf wf (q.1, q.2.1, upd q.2.2.1 0 (q.2.2.1 0 + 1), q.2.2.2.1, q.2.2.2.2.1, q.2.2.2.2.2.1, q.2.2.2.2.2.2.1, q.2.2.2.2.2.2.2.1, q.2.2.2.2.2.2.2.2.1, q.2.2.2.2.2.2.2.2.2.1, q.2.2.2.2.2.2.2.2.2.2.1, q.2.2.2.2.2.2.2.2.2.2.2.1, q.2.2.2.2.2.2.2.2.2.2.2.2.1, q.2.2.2.2.2.2.2.2.2.2.2.2.2.1, q.2.2.2.2.2.2.2.2.2.2.2.2.2.2)) (x := -1000000001) (M' := mX7_finds) dX7_light_22 lkX7_44 mcX7_finds hp_62 rfl (ev_X7_finds (j := 0) (by decide) (by decide)) rfl rfl (Nat.le_of_ble_eq_true rfl) ?_
    exact xg_iret (pc := 25) dX7_light_25 rfl (rqR (j := (some 0)) (g := mf) (by unfold sp_light; refine (if_neg (by first | exact ⟨c_5, c_16⟩ | exact (fun q => c_5 q.1) | exact (fun q => c_16 q.2))).trans ?_; first | (with_reducible rfl) | (simp only [*, ix_0, ix_1, ix_2, ix_3, ix_4]; done) | (simp [*, ix_0, ix_1, ix_2, ix_3, ix_4]; done) | rfl | (simp_all [ix_0, ix_1, ix_2, ix_3, ix_4]; done)) (by first | exact eq65.rf | exact eq65_cp))
  ·
    refine xg_iload_n (pc := 8) dX7_light_8 rfl ?_
    refine xg_i2l (pc := 9) dX7_light_9 ?_
    refine xg_iconst (v := 0) (pc := 10) dX7_light_10 (by decide) ?_
    refine xg_bipush (v := 72) (pc := 11) dX7_light_11 (by decide) ?_
    refine xg_csI (pc := 13) (h1 := hp lk o mf wf q) (x := if 0 ≤ n ∧ n ≤ 72 then 1 else 0) (M' := mX7_in) dX7_light_13 lkX7_48 mcX7_in (ev_in) rfl rfl (Nat.le_of_ble_eq_true rfl) ?_
    refine xg_bnz (pc := 16) (tgt := 26) dX7_light_16 (by decide) (fun c_16 => ?_) (fun c_16 => ?_)
    ·
      obtain ⟨tn, htn, rfl⟩ := idxT ok c_5
      have etn : ix (nI tn) = tn := nI_clamp (by omega)
      obtain ⟨nn, hnn, rfl⟩ := rngN (n := 72) c_16 (by decide)
      have enn : ix (nI nn) = nn := nI_clamp (by omega)
      refine xg_aload_n (pc := 26) dX7_light_26 rfl ?_
      refine xg_cvV (pc := 27) (h1 := hp lk o mf (cpF 65 mf wf) q) (M' := mX7_thinks) dX7_light_27 lkX7_147 mcX7_thinks hp_62 rfl (ev_X7_thinks) rfl rfl (Nat.le_of_ble_eq_true rfl) ?_
      refine xg_aload_n (pc := 30) dX7_light_30 rfl ?_
      refine xg_iload_n (pc := 31) dX7_light_31 rfl ?_
      refine xg_cvV (pc := 32) (h1 := hp lk o (hsC nn mf) (cpF 65 mf wf) q) (M' := mX7_goesOn) dX7_light_32 lkX7_137 mcX7_goesOn hp_62 rfl (ev_goC (n := nn) okp (by omega)) rfl rfl (Nat.le_of_ble_eq_true rfl) ?_
      refine xg_aload_n (pc := 35) dX7_light_35 rfl ?_
      refine xg_iload_n (pc := 36) dX7_light_36 rfl ?_
      refine xg_iconst (v := 3) (pc := 37) dX7_light_37 (by decide) ?_
      refine xg_cvI (pc := 38) (h1 := hp lk o (hsC nn mf) (cpF 65 mf wf) q) (x := (hsC nn mf) (5 + 5 * tn + 3)) (M' := mX7_lit) dX7_light_38 lkX7_52 mcX7_lit hp_62 rfl (ev_X7_lit (t := tn) (w := 3) (by omega)) rfl rfl (Nat.le_of_ble_eq_true rfl) ?_
      refine xg_istore_n (pc := 41) (ls' := [some (.ref 62), some (.int (nI tn)), some (.int (nI nn)), some (.int ((hsC nn mf) (5 + 5 * tn + 3)))]) dX7_light_41 (by decide) rfl ?_
      refine xg_aload_n (pc := 42) dX7_light_42 rfl ?_
      refine xg_cvV (pc := 43) (h1 := hp lk o (cpF 65 (cpF 65 mf wf) (hsC nn mf)) (cpF 65 mf wf) q) (M' := mX7_putsBack) dX7_light_43 lkX7_150 mcX7_putsBack hp_62 rfl (ev_X7_putsBack) rfl rfl (Nat.le_of_ble_eq_true rfl) ?_
      refine xg_iload_n (pc := 46) dX7_light_46 rfl ?_
      exact xg_iret (pc := 47) dX7_light_47 rfl (rqR (j := none) (g := mf) (by unfold sp_light; refine (if_pos (by first | exact ⟨c_5, c_16⟩ | exact (fun q => c_5 q.1) | exact (fun q => c_16 q.2))).trans ?_; first | (with_reducible rfl) | (simp only [*, ix_0, ix_1, ix_2, ix_3, ix_4]; done) | (simp [*, ix_0, ix_1, ix_2, ix_3, ix_4]; done) | rfl | (simp_all [ix_0, ix_1, ix_2, ix_3, ix_4]; done)) (by first | exact eq65.rf | exact eq65_cp))
    ·
      refine xg_aload_n (pc := 19) dX7_light_19 rfl ?_
      refine xg_ldc (v := -1000000001) (pc := 20) dX7_light_20 ccX7_42 ?_
      refine xg_cvI (pc := 22) (h1 := hp lk o mf wf (q.1, q.2.1, upd q.2.2.1 0 (q.2.2.1 0 + 1), q.2.2.2.1, q.2.2.2.2.1, q.2.2.2.2.2.1, q.2.2.2.2.2.2.1, q.2.2.2.2.2.2.2.1, q.2.2.2.2.2.2.2.2.1, q.2.2.2.2.2.2.2.2.2.1, q.2.2.2.2.2.2.2.2.2.2.1, q.2.2.2.2.2.2.2.2.2.2.2.1, q.2.2.2.2.2.2.2.2.2.2.2.2.1, q.2.2.2.2.2.2.2.2.2.2.2.2.2.1, q.2.2.2.2.2.2.2.2.2.2.2.2.2.2)) (x := -1000000001) (M' := mX7_finds) dX7_light_22 lkX7_44 mcX7_finds hp_62 rfl (ev_X7_finds (j := 0) (by decide) (by decide)) rfl rfl (Nat.le_of_ble_eq_true rfl) ?_
      exact xg_iret (pc := 25) dX7_light_25 rfl (rqR (j := (some 0)) (g := mf) (by unfold sp_light; refine (if_neg (by first | exact ⟨c_5, c_16⟩ | exact (fun q => c_5 q.1) | exact (fun q => c_16 q.2))).trans ?_; first | (with_reducible rfl) | (simp only [*, ix_0, ix_1, ix_2, ix_3, ix_4]; done) | (simp [*, ix_0, ix_1, ix_2, ix_3, ix_4]; done) | rfl | (simp_all [ix_0, ix_1, ix_2, ix_3, ix_4]; done)) (by first | exact eq65.rf | exact eq65_cp))
set_option maxRecDepth 100000 in
theorem ev_X7_worthOn {j n : Nat} (okp : okP mf) (hj : j < nB mf) (hn : n < 2 ^ 31) : xDv X false (d + 8) mX7_worthOn [.ref 62, .int (nI j), .int (nI n)] (hp lk o mf wf q) [.int (wo (hsC n mf) j)] (hp lk o (cpF 65 wf (hsC n mf)) wf q) := by
  have ok := okp.1.1
  have h8 := ok.2.1
  have h5 := ok.2.2.2
  refine xDv.of (ls := [some (.ref 62), some (.int (nI j)), some (.int (nI n)), none]) mcX7_worthOn.1.2.2.2.2 (Nat.le_of_ble_eq_true rfl) rfl ?_
  refine xg_aload_n (pc := 0) dX7_worthOn_0 rfl ?_
  refine xg_iload_n (pc := 1) dX7_worthOn_1 rfl ?_
  refine xg_cvV (pc := 2) (h1 := hp lk o (hsC n mf) wf q) (M' := mX7_goesOn) dX7_worthOn_2 lkX7_137 mcX7_goesOn hp_62 rfl (ev_goC (n := n) okp (by omega)) rfl rfl (Nat.le_of_ble_eq_true rfl) ?_
  refine xg_iload_n (pc := 5) dX7_worthOn_5 rfl ?_
  refine xg_if_ge (pc := 6) (tgt := 23) dX7_worthOn_6 (by decide) (fun c_6 => ?_) (fun c_6 => absurd c_6 (fun q => q (nI_pos' (by omega))))
  refine xg_aload_n (pc := 23) dX7_worthOn_23 rfl ?_
  refine xg_iload_n (pc := 24) dX7_worthOn_24 rfl ?_
  refine xg_iconst (v := 3) (pc := 25) dX7_worthOn_25 (by decide) ?_
  refine xg_cvI (pc := 26) (h1 := hp lk o (hsC n mf) wf q) (x := (hsC n mf) (45 + 4 * j + 3)) (M' := mX7_has) dX7_worthOn_26 lkX7_77 mcX7_has hp_62 rfl (ev_X7_has (j := j) (w := 3) (by omega)) rfl rfl (Nat.le_of_ble_eq_true rfl) ?_
  refine xg_aload_n (pc := 29) dX7_worthOn_29 rfl ?_
  refine xg_iload_n (pc := 30) dX7_worthOn_30 rfl ?_
  refine xg_iconst (v := 2) (pc := 31) dX7_worthOn_31 (by decide) ?_
  refine xg_cvI (pc := 32) (h1 := hp lk o (hsC n mf) wf q) (x := (hsC n mf) (45 + 4 * j + 2)) (M' := mX7_has) dX7_worthOn_32 lkX7_77 mcX7_has hp_62 rfl (ev_X7_has (j := j) (w := 2) (by omega)) rfl rfl (Nat.le_of_ble_eq_true rfl) ?_
  refine xg_iadd (pc := 35) dX7_worthOn_35 ?_
  refine xg_istore_n (pc := 36) (ls' := [some (.ref 62), some (.int (nI j)), some (.int (nI n)), some (.int (((hsC n mf) (45 + 4 * j + 3)) + ((hsC n mf) (45 + 4 * j + 2))))]) dX7_worthOn_36 (by decide) rfl ?_
  refine xg_aload_n (pc := 37) dX7_worthOn_37 rfl ?_
  refine xg_cvV (pc := 38) (h1 := hp lk o (cpF 65 wf (hsC n mf)) wf q) (M' := mX7_putsBack) dX7_worthOn_38 lkX7_150 mcX7_putsBack hp_62 rfl (ev_X7_putsBack) rfl rfl (Nat.le_of_ble_eq_true rfl) ?_
  refine xg_iload_n (pc := 41) dX7_worthOn_41 rfl ?_
  exact xg_iret (pc := 42) dX7_worthOn_42 rfl (⟨by rfl, rfl⟩)
set_option maxRecDepth 100000 in
theorem ev_worthA {n : Nat} (okp : okP mf) (hn : n < 2 ^ 31) : xDv X false (d + 8) mX7_worthOn [.ref 62, .int (-1), .int (nI n)] (hp lk o mf wf q) [.int (woA (hsC n mf))] (hp lk o (cpF 65 wf (hsC n mf)) wf q) := by
  have ok := okp.1.1
  have h8 := ok.2.1
  have h5 := ok.2.2.2
  refine xDv.of (ls := [some (.ref 62), some (.int (-1)), some (.int (nI n)), none]) mcX7_worthOn.1.2.2.2.2 (Nat.le_of_ble_eq_true rfl) rfl ?_
  refine xg_aload_n (pc := 0) dX7_worthOn_0 rfl ?_
  refine xg_iload_n (pc := 1) dX7_worthOn_1 rfl ?_
  refine xg_cvV (pc := 2) (h1 := hp lk o (hsC n mf) wf q) (M' := mX7_goesOn) dX7_worthOn_2 lkX7_137 mcX7_goesOn hp_62 rfl (ev_goC (n := n) okp (by omega)) rfl rfl (Nat.le_of_ble_eq_true rfl) ?_
  refine xg_iload_n (pc := 5) dX7_worthOn_5 rfl ?_
  refine xg_if_ge (pc := 6) (tgt := 23) dX7_worthOn_6 (by decide) (fun c_6 => absurd c_6 (by decide)) (fun c_6 => ?_)
  refine xg_aload_n (pc := 9) dX7_worthOn_9 rfl ?_
  refine xg_iconst (v := 3) (pc := 10) dX7_worthOn_10 (by decide) ?_
  refine xg_cvI (pc := 11) (h1 := hp lk o (hsC n mf) wf q) (x := sumI (sB (hsC n mf) 3) (nB (hsC n mf))) (M' := mX7_sumOf) dX7_worthOn_11 lkX7_140 mcX7_sumOf hp_62 rfl (ev_X7_sumOf (hsC_ok okp.1 n).1 (w := 3) (by decide)) rfl rfl (Nat.le_of_ble_eq_true rfl) ?_
  refine xg_aload_n (pc := 14) dX7_worthOn_14 rfl ?_
  refine xg_iconst (v := 2) (pc := 15) dX7_worthOn_15 (by decide) ?_
  refine xg_cvI (pc := 16) (h1 := hp lk o (hsC n mf) wf q) (x := sumI (sB (hsC n mf) 2) (nB (hsC n mf))) (M' := mX7_sumOf) dX7_worthOn_16 lkX7_140 mcX7_sumOf hp_62 rfl (ev_X7_sumOf (hsC_ok okp.1 n).1 (w := 2) (by decide)) rfl rfl (Nat.le_of_ble_eq_true rfl) ?_
  refine xg_iadd (pc := 19) dX7_worthOn_19 ?_
  refine xg_goto (pc := 20) (tgt := 36) dX7_worthOn_20 (by decide) ?_
  refine xg_istore_n (pc := 36) (ls' := [some (.ref 62), some (.int (-1)), some (.int (nI n)), some (.int ((sumI (sB (hsC n mf) 3) (nB (hsC n mf))) + (sumI (sB (hsC n mf) 2) (nB (hsC n mf)))))]) dX7_worthOn_36 (by decide) rfl ?_
  refine xg_aload_n (pc := 37) dX7_worthOn_37 rfl ?_
  refine xg_cvV (pc := 38) (h1 := hp lk o (cpF 65 wf (hsC n mf)) wf q) (M' := mX7_putsBack) dX7_worthOn_38 lkX7_150 mcX7_putsBack hp_62 rfl (ev_X7_putsBack) rfl rfl (Nat.le_of_ble_eq_true rfl) ?_
  refine xg_iload_n (pc := 41) dX7_worthOn_41 rfl ?_
  exact xg_iret (pc := 42) dX7_worthOn_42 rfl (⟨by rfl, rfl⟩)
set_option maxRecDepth 100000 in
theorem lp_X7_full {bn : Nat} {v : Int32} (okp : okP mf) (hbn : bn < nB mf) : ∀ (k tq : Nat), tq + k = 73 → xGo X false (d + 7) 0 0 mX7_full 33 [some (.ref 62), some (.int (nI bn)), some (.int v), some (.int (nI tq))] [] (hp lk o (hsC tq mf) (cpF 65 mf wf) q) (RQ lk o q (orN mf (srch (fun n => v ≤ hsC n mf (45 + 4 * bn + 2)) k tq))) := by
  intro k
  induction k with
  | zero =>
    intro tq ht
    have etq : tq = 73 := by omega
    subst etq
    refine xg_iload_n (pc := 33) dX7_full_33 rfl ?_
    refine xg_bipush (v := 72) (pc := 34) dX7_full_34 (by decide) ?_
    refine xg_icmp_gt (pc := 36) (tgt := 59) dX7_full_36 (by decide) (fun c_36 => ?_) (fun c_36 => absurd c_36 (by decide))
    refine xg_aload_n (pc := 59) dX7_full_59 rfl ?_
    refine xg_cvV (pc := 60) (h1 := hp lk o (cpF 65 (cpF 65 mf wf) (hsC 73 mf)) (cpF 65 mf wf) q) (M' := mX7_putsBack) dX7_full_60 lkX7_150 mcX7_putsBack hp_62 rfl (ev_X7_putsBack) rfl rfl (Nat.le_of_ble_eq_true rfl) ?_
    refine xg_iload_n (pc := 63) dX7_full_63 rfl ?_
    refine xg_bipush (v := 72) (pc := 64) dX7_full_64 (by decide) ?_
    refine xg_icmp_le (pc := 66) (tgt := 78) dX7_full_66 (by decide) (fun c_66 => absurd c_66 (by decide)) (fun c_66 => ?_)
    refine xg_aload_n (pc := 69) dX7_full_69 rfl ?_
    refine xg_ldc (v := -1000000004) (pc := 70) dX7_full_70 ccX7_43 ?_
    refine xg_cvI (pc := 72) (h1 := hp lk o (cpF 65 (cpF 65 mf wf) (hsC 73 mf)) (cpF 65 mf wf) (q.1, q.2.1, upd q.2.2.1 3 (q.2.2.1 3 + 1), q.2.2.2.1, q.2.2.2.2.1, q.2.2.2.2.2.1, q.2.2.2.2.2.2.1, q.2.2.2.2.2.2.2.1, q.2.2.2.2.2.2.2.2.1, q.2.2.2.2.2.2.2.2.2.1, q.2.2.2.2.2.2.2.2.2.2.1, q.2.2.2.2.2.2.2.2.2.2.2.1, q.2.2.2.2.2.2.2.2.2.2.2.2.1, q.2.2.2.2.2.2.2.2.2.2.2.2.2.1, q.2.2.2.2.2.2.2.2.2.2.2.2.2.2)) (x := -1000000004) (M' := mX7_finds) dX7_full_72 lkX7_44 mcX7_finds hp_62 rfl (ev_X7_finds (j := 3) (by decide) (by decide)) rfl rfl (Nat.le_of_ble_eq_true rfl) ?_
    refine xg_goto (pc := 75) (tgt := 79) dX7_full_75 (by decide) ?_
    exact xg_iret (pc := 79) dX7_full_79 rfl (rqR (j := (some 3)) (g := mf) (by rfl) eq65_cp)
  | succ k ih =>
    intro tq ht
    have h5 := okp.h5
    have h8 := okp.h8
    refine xg_iload_n (pc := 33) dX7_full_33 rfl ?_
    refine xg_bipush (v := 72) (pc := 34) dX7_full_34 (by decide) ?_
    refine xg_icmp_gt (pc := 36) (tgt := 59) dX7_full_36 (by decide) (fun c_36 => absurd c_36 (nI_nlt (a := 72) (by omega) (by omega))) (fun c_36 => ?_)
    refine xg_aload_n (pc := 39) dX7_full_39 rfl ?_
    refine xg_iload_n (pc := 40) dX7_full_40 rfl ?_
    refine xg_iconst (v := 2) (pc := 41) dX7_full_41 (by decide) ?_
    refine xg_cvI (pc := 42) (h1 := hp lk o (hsC tq mf) (cpF 65 mf wf) q) (x := (hsC tq mf) (45 + 4 * bn + 2)) (M' := mX7_has) dX7_full_42 lkX7_77 mcX7_has hp_62 rfl (ev_X7_has (j := bn) (w := 2) (by omega)) rfl rfl (Nat.le_of_ble_eq_true rfl) ?_
    refine xg_iload_n (pc := 45) dX7_full_45 rfl ?_
    refine xg_icmp_ge (pc := 46) (tgt := 59) dX7_full_46 (by decide) (fun c_46 => ?_) (fun c_46 => ?_)
    ·
      refine xg_aload_n (pc := 59) dX7_full_59 rfl ?_
      refine xg_cvV (pc := 60) (h1 := hp lk o (cpF 65 (cpF 65 mf wf) (hsC tq mf)) (cpF 65 mf wf) q) (M' := mX7_putsBack) dX7_full_60 lkX7_150 mcX7_putsBack hp_62 rfl (ev_X7_putsBack) rfl rfl (Nat.le_of_ble_eq_true rfl) ?_
      refine xg_iload_n (pc := 63) dX7_full_63 rfl ?_
      refine xg_bipush (v := 72) (pc := 64) dX7_full_64 (by decide) ?_
      refine xg_icmp_le (pc := 66) (tgt := 78) dX7_full_66 (by decide) (fun c_66 => ?_) (fun c_66 => absurd c_66 (fun q => q (nI_le (b := 72) (by omega) (by omega))))
      refine xg_iload_n (pc := 78) dX7_full_78 rfl ?_
      exact xg_iret (pc := 79) dX7_full_79 rfl (rqR (j := none) (g := mf) (by rw [srch, if_pos c_46]; rfl) eq65_cp)
    ·
      refine xg_aload_n (pc := 49) dX7_full_49 rfl ?_
      refine xg_cvV (pc := 50) (h1 := hp lk o (hrC (hsC tq mf)) (cpF 65 mf wf) q) (M' := mX7_hour) dX7_full_50 lkX7_133 mcX7_hour hp_62 rfl (ev_hrC (hs_P okp).2) rfl rfl (Nat.le_of_ble_eq_true rfl) ?_
      refine xg_iinc (pc := 53) (y := nI (tq + 1)) (ls' := [some (.ref 62), some (.int (nI bn)), some (.int v), some (.int (nI (tq + 1)))]) dX7_full_53 rfl (xinc _) (by decide) rfl ?_
      refine xg_goto (pc := 56) (tgt := 33) dX7_full_56 (by decide) ?_
      rw [show srch (fun n => v ≤ hsC n mf (45 + 4 * bn + 2)) (k + 1) tq = srch (fun n => v ≤ hsC n mf (45 + 4 * bn + 2)) k (tq + 1) from if_neg (fun z => c_46 z)]
      exact ih (tq + 1) (by omega)
set_option maxRecDepth 100000 in
theorem lp_X7_dark {tn : Nat} (okp : okP mf) (htn : tn < nT mf) : ∀ (k tq : Nat), tq + k = 73 → xGo X false (d + 7) 0 0 mX7_dark 21 [some (.ref 62), some (.int (nI tn)), some (.int (nI tq))] [] (hp lk o (hsC tq mf) (cpF 65 mf wf) q) (RQ lk o q (orN mf (srch (fun n => hsC n mf (5 + 5 * tn + 3) = 0) k tq))) := by
  intro k
  induction k with
  | zero =>
    intro tq ht
    have etq : tq = 73 := by omega
    subst etq
    refine xg_iload_n (pc := 21) dX7_dark_21 rfl ?_
    refine xg_bipush (v := 72) (pc := 22) dX7_dark_22 (by decide) ?_
    refine xg_icmp_gt (pc := 24) (tgt := 46) dX7_dark_24 (by decide) (fun c_24 => ?_) (fun c_24 => absurd c_24 (by decide))
    refine xg_aload_n (pc := 46) dX7_dark_46 rfl ?_
    refine xg_cvV (pc := 47) (h1 := hp lk o (cpF 65 (cpF 65 mf wf) (hsC 73 mf)) (cpF 65 mf wf) q) (M' := mX7_putsBack) dX7_dark_47 lkX7_150 mcX7_putsBack hp_62 rfl (ev_X7_putsBack) rfl rfl (Nat.le_of_ble_eq_true rfl) ?_
    refine xg_iload_n (pc := 50) dX7_dark_50 rfl ?_
    refine xg_bipush (v := 72) (pc := 51) dX7_dark_51 (by decide) ?_
    refine xg_icmp_le (pc := 53) (tgt := 65) dX7_dark_53 (by decide) (fun c_53 => absurd c_53 (by decide)) (fun c_53 => ?_)
    refine xg_aload_n (pc := 56) dX7_dark_56 rfl ?_
    refine xg_ldc (v := -1000000004) (pc := 57) dX7_dark_57 ccX7_43 ?_
    refine xg_cvI (pc := 59) (h1 := hp lk o (cpF 65 (cpF 65 mf wf) (hsC 73 mf)) (cpF 65 mf wf) (q.1, q.2.1, upd q.2.2.1 3 (q.2.2.1 3 + 1), q.2.2.2.1, q.2.2.2.2.1, q.2.2.2.2.2.1, q.2.2.2.2.2.2.1, q.2.2.2.2.2.2.2.1, q.2.2.2.2.2.2.2.2.1, q.2.2.2.2.2.2.2.2.2.1, q.2.2.2.2.2.2.2.2.2.2.1, q.2.2.2.2.2.2.2.2.2.2.2.1, q.2.2.2.2.2.2.2.2.2.2.2.2.1, q.2.2.2.2.2.2.2.2.2.2.2.2.2.1, q.2.2.2.2.2.2.2.2.2.2.2.2.2.2)) (x := -1000000004) (M' := mX7_finds) dX7_dark_59 lkX7_44 mcX7_finds hp_62 rfl (ev_X7_finds (j := 3) (by decide) (by decide)) rfl rfl (Nat.le_of_ble_eq_true rfl) ?_
    refine xg_goto (pc := 62) (tgt := 66) dX7_dark_62 (by decide) ?_
    exact xg_iret (pc := 66) dX7_dark_66 rfl (rqR (j := (some 3)) (g := mf) (by rfl) eq65_cp)
  | succ k ih =>
    intro tq ht
    have h5 := okp.h5
    have h8 := okp.h8
    have hli : ∀ n, 0 ≤ hsC n mf (5 + 5 * tn + 3) := fun n => ((hs_P okp).2.2.1 tn (by rw [(hsC_TB okp.h8).1]; exact htn)).2.2.1
    refine xg_iload_n (pc := 21) dX7_dark_21 rfl ?_
    refine xg_bipush (v := 72) (pc := 22) dX7_dark_22 (by decide) ?_
    refine xg_icmp_gt (pc := 24) (tgt := 46) dX7_dark_24 (by decide) (fun c_24 => absurd c_24 (nI_nlt (a := 72) (by omega) (by omega))) (fun c_24 => ?_)
    refine xg_aload_n (pc := 27) dX7_dark_27 rfl ?_
    refine xg_iload_n (pc := 28) dX7_dark_28 rfl ?_
    refine xg_iconst (v := 3) (pc := 29) dX7_dark_29 (by decide) ?_
    refine xg_cvI (pc := 30) (h1 := hp lk o (hsC tq mf) (cpF 65 mf wf) q) (x := (hsC tq mf) (5 + 5 * tn + 3)) (M' := mX7_lit) dX7_dark_30 lkX7_52 mcX7_lit hp_62 rfl (ev_X7_lit (t := tn) (w := 3) (by omega)) rfl rfl (Nat.le_of_ble_eq_true rfl) ?_
    refine xg_if_le (pc := 33) (tgt := 46) dX7_dark_33 (by decide) (fun c_33 => ?_) (fun c_33 => ?_)
    ·
      refine xg_aload_n (pc := 46) dX7_dark_46 rfl ?_
      refine xg_cvV (pc := 47) (h1 := hp lk o (cpF 65 (cpF 65 mf wf) (hsC tq mf)) (cpF 65 mf wf) q) (M' := mX7_putsBack) dX7_dark_47 lkX7_150 mcX7_putsBack hp_62 rfl (ev_X7_putsBack) rfl rfl (Nat.le_of_ble_eq_true rfl) ?_
      refine xg_iload_n (pc := 50) dX7_dark_50 rfl ?_
      refine xg_bipush (v := 72) (pc := 51) dX7_dark_51 (by decide) ?_
      refine xg_icmp_le (pc := 53) (tgt := 65) dX7_dark_53 (by decide) (fun c_53 => ?_) (fun c_53 => absurd c_53 (fun q => q (nI_le (b := 72) (by omega) (by omega))))
      refine xg_iload_n (pc := 65) dX7_dark_65 rfl ?_
      exact xg_iret (pc := 66) dX7_dark_66 rfl (rqR (j := none) (g := mf) (by rw [srch, if_pos (le0_of (hli _) c_33)]; rfl) eq65_cp)
    ·
      refine xg_aload_n (pc := 36) dX7_dark_36 rfl ?_
      refine xg_cvV (pc := 37) (h1 := hp lk o (hrC (hsC tq mf)) (cpF 65 mf wf) q) (M' := mX7_hour) dX7_dark_37 lkX7_133 mcX7_hour hp_62 rfl (ev_hrC (hs_P okp).2) rfl rfl (Nat.le_of_ble_eq_true rfl) ?_
      refine xg_iinc (pc := 40) (y := nI (tq + 1)) (ls' := [some (.ref 62), some (.int (nI tn)), some (.int (nI (tq + 1)))]) dX7_dark_40 rfl (xinc _) (by decide) rfl ?_
      refine xg_goto (pc := 43) (tgt := 21) dX7_dark_43 (by decide) ?_
      rw [show srch (fun n => hsC n mf (5 + 5 * tn + 3) = 0) (k + 1) tq = srch (fun n => hsC n mf (5 + 5 * tn + 3) = 0) k (tq + 1) from if_neg (fun z => c_33 (by rw [z]; decide))]
      exact ih (tq + 1) (by omega)
set_option maxRecDepth 100000 in
set_option maxHeartbeats 4000000 in
theorem ev_X7_full {b v : Int32} (okp : okP mf) : xEv X false (d + 7) 0 0 mX7_full [.ref 62, .int b, .int v] (hp lk o mf wf q) (RQ lk o q (sp_full mf (srch (fun n => v ≤ hsC n mf (45 + 4 * ix b + 2)) 73 0) b v)) := by
  have ok := okp.1.1
  have h8 := ok.2.1
  have h5 := ok.2.2.2
  refine xEv.of (ls := [some (.ref 62), some (.int b), some (.int v), none]) mcX7_full.1.2.2.2.2 (Nat.le_of_ble_eq_true rfl) rfl ?_
  refine xg_aload_n (pc := 0) dX7_full_0 rfl ?_
  refine xg_iload_n (pc := 1) dX7_full_1 rfl ?_
  refine xg_cvI (pc := 2) (h1 := hp lk o mf wf q) (x := if 0 ≤ b ∧ b < mf 4 then 1 else 0) (M' := mX7_isBoat) dX7_full_2 lkX7_117 mcX7_isBoat hp_62 rfl (ev_isB ok) rfl rfl (Nat.le_of_ble_eq_true rfl) ?_
  refine xg_bz (pc := 5) (tgt := 20) dX7_full_5 (by decide) (fun c_5 => ?_) (fun c_5 => ?_)
  ·
    refine xg_aload_n (pc := 20) dX7_full_20 rfl ?_
    refine xg_ldc (v := -1000000001) (pc := 21) dX7_full_21 ccX7_42 ?_
    refine xg_cvI (pc := 23) (h1 := hp lk o mf wf (q.1, q.2.1, upd q.2.2.1 0 (q.2.2.1 0 + 1), q.2.2.2.1, q.2.2.2.2.1, q.2.2.2.2.2.1, q.2.2.2.2.2.2.1, q.2.2.2.2.2.2.2.1, q.2.2.2.2.2.2.2.2.1, q.2.2.2.2.2.2.2.2.2.1, q.2.2.2.2.2.2.2.2.2.2.1, q.2.2.2.2.2.2.2.2.2.2.2.1, q.2.2.2.2.2.2.2.2.2.2.2.2.1, q.2.2.2.2.2.2.2.2.2.2.2.2.2.1, q.2.2.2.2.2.2.2.2.2.2.2.2.2.2)) (x := -1000000001) (M' := mX7_finds) dX7_full_23 lkX7_44 mcX7_finds hp_62 rfl (ev_X7_finds (j := 0) (by decide) (by decide)) rfl rfl (Nat.le_of_ble_eq_true rfl) ?_
    exact xg_iret (pc := 26) dX7_full_26 rfl (rqR (j := (some 0)) (g := mf) (by unfold sp_full; refine (if_neg (by first | exact ⟨c_5, c_17⟩ | exact (fun q => c_5 q.1) | exact (fun q => c_17 q.2))).trans ?_; first | (with_reducible rfl) | (simp only [*, ix_0, ix_1, ix_2, ix_3, ix_4]; done) | (simp [*, ix_0, ix_1, ix_2, ix_3, ix_4]; done) | rfl | (simp_all [ix_0, ix_1, ix_2, ix_3, ix_4]; done)) (by first | exact eq65.rf | exact eq65_cp))
  ·
    refine xg_iload_n (pc := 8) dX7_full_8 rfl ?_
    refine xg_i2l (pc := 9) dX7_full_9 ?_
    refine xg_iconst (v := 1) (pc := 10) dX7_full_10 (by decide) ?_
    refine xg_sipush (v := 999) (pc := 11) dX7_full_11 (by decide) ?_
    refine xg_csI (pc := 14) (h1 := hp lk o mf wf q) (x := if 1 ≤ v ∧ v ≤ 999 then 1 else 0) (M' := mX7_in) dX7_full_14 lkX7_48 mcX7_in (ev_in) rfl rfl (Nat.le_of_ble_eq_true rfl) ?_
    refine xg_bnz (pc := 17) (tgt := 27) dX7_full_17 (by decide) (fun c_17 => ?_) (fun c_17 => ?_)
    ·
      obtain ⟨bn, hbn, rfl⟩ := idxB ok c_5
      have ebn : ix (nI bn) = bn := nI_clamp (by omega)
      refine xg_aload_n (pc := 27) dX7_full_27 rfl ?_
      refine xg_cvV (pc := 28) (h1 := hp lk o mf (cpF 65 mf wf) q) (M' := mX7_thinks) dX7_full_28 lkX7_147 mcX7_thinks hp_62 rfl (ev_X7_thinks) rfl rfl (Nat.le_of_ble_eq_true rfl) ?_
      refine xg_iconst (v := 0) (pc := 31) dX7_full_31 (by decide) ?_
      refine xg_istore_n (pc := 32) (ls' := [some (.ref 62), some (.int (nI bn)), some (.int v), some (.int 0)]) dX7_full_32 (by decide) rfl ?_
      rw [show sp_full mf (srch (fun n => v ≤ hsC n mf (45 + 4 * ix (nI bn) + 2)) 73 0) (nI bn) v = orN mf (srch (fun n => v ≤ hsC n mf (45 + 4 * bn + 2)) 73 0) from by unfold sp_full; rw [if_pos ⟨c_5, c_17⟩, ebn]]
      exact lp_X7_full okp hbn 73 0 rfl
    ·
      refine xg_aload_n (pc := 20) dX7_full_20 rfl ?_
      refine xg_ldc (v := -1000000001) (pc := 21) dX7_full_21 ccX7_42 ?_
      refine xg_cvI (pc := 23) (h1 := hp lk o mf wf (q.1, q.2.1, upd q.2.2.1 0 (q.2.2.1 0 + 1), q.2.2.2.1, q.2.2.2.2.1, q.2.2.2.2.2.1, q.2.2.2.2.2.2.1, q.2.2.2.2.2.2.2.1, q.2.2.2.2.2.2.2.2.1, q.2.2.2.2.2.2.2.2.2.1, q.2.2.2.2.2.2.2.2.2.2.1, q.2.2.2.2.2.2.2.2.2.2.2.1, q.2.2.2.2.2.2.2.2.2.2.2.2.1, q.2.2.2.2.2.2.2.2.2.2.2.2.2.1, q.2.2.2.2.2.2.2.2.2.2.2.2.2.2)) (x := -1000000001) (M' := mX7_finds) dX7_full_23 lkX7_44 mcX7_finds hp_62 rfl (ev_X7_finds (j := 0) (by decide) (by decide)) rfl rfl (Nat.le_of_ble_eq_true rfl) ?_
      exact xg_iret (pc := 26) dX7_full_26 rfl (rqR (j := (some 0)) (g := mf) (by unfold sp_full; refine (if_neg (by first | exact ⟨c_5, c_17⟩ | exact (fun q => c_5 q.1) | exact (fun q => c_17 q.2))).trans ?_; first | (with_reducible rfl) | (simp only [*, ix_0, ix_1, ix_2, ix_3, ix_4]; done) | (simp [*, ix_0, ix_1, ix_2, ix_3, ix_4]; done) | rfl | (simp_all [ix_0, ix_1, ix_2, ix_3, ix_4]; done)) (by first | exact eq65.rf | exact eq65_cp))
set_option maxRecDepth 100000 in
set_option maxHeartbeats 4000000 in
theorem ev_X7_dark {t : Int32} (okp : okP mf) : xEv X false (d + 7) 0 0 mX7_dark [.ref 62, .int t] (hp lk o mf wf q) (RQ lk o q (sp_dark mf (srch (fun n => hsC n mf (5 + 5 * ix t + 3) = 0) 73 0) t)) := by
  have ok := okp.1.1
  have h8 := ok.2.1
  have h5 := ok.2.2.2
  refine xEv.of (ls := [some (.ref 62), some (.int t), none]) mcX7_dark.1.2.2.2.2 (Nat.le_of_ble_eq_true rfl) rfl ?_
  refine xg_aload_n (pc := 0) dX7_dark_0 rfl ?_
  refine xg_iload_n (pc := 1) dX7_dark_1 rfl ?_
  refine xg_cvI (pc := 2) (h1 := hp lk o mf wf q) (x := if 0 ≤ t ∧ t < mf 3 then 1 else 0) (M' := mX7_isThing) dX7_dark_2 lkX7_106 mcX7_isThing hp_62 rfl (ev_isT ok) rfl rfl (Nat.le_of_ble_eq_true rfl) ?_
  refine xg_bnz (pc := 5) (tgt := 15) dX7_dark_5 (by decide) (fun c_5 => ?_) (fun c_5 => ?_)
  ·
    obtain ⟨tn, htn, rfl⟩ := idxT ok c_5
    have etn : ix (nI tn) = tn := nI_clamp (by omega)
    refine xg_aload_n (pc := 15) dX7_dark_15 rfl ?_
    refine xg_cvV (pc := 16) (h1 := hp lk o mf (cpF 65 mf wf) q) (M' := mX7_thinks) dX7_dark_16 lkX7_147 mcX7_thinks hp_62 rfl (ev_X7_thinks) rfl rfl (Nat.le_of_ble_eq_true rfl) ?_
    refine xg_iconst (v := 0) (pc := 19) dX7_dark_19 (by decide) ?_
    refine xg_istore_n (pc := 20) (ls' := [some (.ref 62), some (.int (nI tn)), some (.int 0)]) dX7_dark_20 (by decide) rfl ?_
    rw [show sp_dark mf (srch (fun n => hsC n mf (5 + 5 * ix (nI tn) + 3) = 0) 73 0) (nI tn) = orN mf (srch (fun n => hsC n mf (5 + 5 * tn + 3) = 0) 73 0) from by unfold sp_dark; rw [if_pos c_5, etn]]
    exact lp_X7_dark okp htn 73 0 rfl
  ·
    refine xg_aload_n (pc := 8) dX7_dark_8 rfl ?_
    refine xg_ldc (v := -1000000001) (pc := 9) dX7_dark_9 ccX7_42 ?_
    refine xg_cvI (pc := 11) (h1 := hp lk o mf wf (q.1, q.2.1, upd q.2.2.1 0 (q.2.2.1 0 + 1), q.2.2.2.1, q.2.2.2.2.1, q.2.2.2.2.2.1, q.2.2.2.2.2.2.1, q.2.2.2.2.2.2.2.1, q.2.2.2.2.2.2.2.2.1, q.2.2.2.2.2.2.2.2.2.1, q.2.2.2.2.2.2.2.2.2.2.1, q.2.2.2.2.2.2.2.2.2.2.2.1, q.2.2.2.2.2.2.2.2.2.2.2.2.1, q.2.2.2.2.2.2.2.2.2.2.2.2.2.1, q.2.2.2.2.2.2.2.2.2.2.2.2.2.2)) (x := -1000000001) (M' := mX7_finds) dX7_dark_11 lkX7_44 mcX7_finds hp_62 rfl (ev_X7_finds (j := 0) (by decide) (by decide)) rfl rfl (Nat.le_of_ble_eq_true rfl) ?_
    exact xg_iret (pc := 14) dX7_dark_14 rfl (rqR (j := (some 0)) (g := mf) (by unfold sp_dark; refine (if_neg (by exact c_5)).trans ?_; first | (with_reducible rfl) | (simp only [*, ix_0, ix_1, ix_2, ix_3, ix_4]; done) | (simp [*, ix_0, ix_1, ix_2, ix_3, ix_4]; done) | rfl | (simp_all [ix_0, ix_1, ix_2, ix_3, ix_4]; done)) (by first | exact eq65.rf | exact eq65_cp))
set_option maxRecDepth 100000 in
theorem lp_X7_brightest  (okp : okP mf) : ∀ (k tq : Nat), tq + k = 48 → ∀ (l4 : Option Value), xGo X false (d + 4) 0 0 mX7_brightest 6 [some (.ref 62), some (.int ((amx (fun c => glC mf (nI c)) 0 (-1) tq).2)), some (.int ((amx (fun c => glC mf (nI c)) 0 (-1) tq).1)), some (.int (nI tq)), l4] [] (hp lk o mf wf q) (RQ lk o q (orM mf (amx (fun c => glC mf (nI c)) 0 (-1) 48).2)) := by
  intro k
  induction k with
  | zero =>
    intro tq ht l4
    have etq : tq = 48 := by omega
    subst etq
    refine xg_iload_n (pc := 6) dX7_brightest_6 rfl ?_
    refine xg_bipush (v := 48) (pc := 7) dX7_brightest_7 (by decide) ?_
    refine xg_icmp_ge (pc := 9) (tgt := 50) dX7_brightest_9 (by decide) (fun c_9 => ?_) (fun c_9 => absurd c_9 (by decide))
    refine xg_aload_n (pc := 50) dX7_brightest_50 rfl ?_
    refine xg_iload_n (pc := 51) dX7_brightest_51 rfl ?_
    refine xg_cvI (pc := 52) (h1 := hp lk o mf wf (fnQ q (if ((amx (fun c => glC mf (nI c)) 0 (-1) 48).2) < 0 then some 3 else none))) (x := if ((amx (fun c => glC mf (nI c)) 0 (-1) 48).2) < 0 then -1000000004 else ((amx (fun c => glC mf (nI c)) 0 (-1) 48).2)) (M' := mX7_orNone) dX7_brightest_52 lkX7_153 mcX7_orNone hp_62 rfl (ev_orN) rfl rfl (Nat.le_of_ble_eq_true rfl) ?_
    exact xg_iret (pc := 55) dX7_brightest_55 rfl (rqR (j := (if ((amx (fun c => glC mf (nI c)) 0 (-1) 48).2) < 0 then some 3 else none)) (g := mf) orM_e (eq65.rf))
  | succ k ih =>
    intro tq ht l4
    refine xg_iload_n (pc := 6) dX7_brightest_6 rfl ?_
    refine xg_bipush (v := 48) (pc := 7) dX7_brightest_7 (by decide) ?_
    refine xg_icmp_ge (pc := 9) (tgt := 50) dX7_brightest_9 (by decide) (fun c_9 => absurd c_9 (nI_ge (b := 48) (by omega) (by omega))) (fun c_9 => ?_)
    refine xg_aload_n (pc := 12) dX7_brightest_12 rfl ?_
    refine xg_iload_n (pc := 13) dX7_brightest_13 rfl ?_
    refine xg_cvI (pc := 14) (h1 := hp lk o mf wf q) (x := glR mf (nI tq)) (M' := mX7_glintOf) dX7_brightest_14 lkX7_86 mcX7_glintOf hp_62 rfl (ev_X7_glintOf okp.1.1 (cell_of (by omega))) rfl rfl (Nat.le_of_ble_eq_true rfl) ?_
    refine xg_eq (glR_C okp) ?_
    refine xg_istore (pc := 17) (ls' := [some (.ref 62), some (.int ((amx (fun c => glC mf (nI c)) 0 (-1) tq).2)), some (.int ((amx (fun c => glC mf (nI c)) 0 (-1) tq).1)), some (.int (nI tq)), some (.int (glC mf (nI tq)))]) dX7_brightest_17 (by decide) rfl ?_
    refine xg_iload (pc := 19) dX7_brightest_19 rfl ?_
    refine xg_iload_n (pc := 21) dX7_brightest_21 rfl ?_
    refine xg_icmp_le (pc := 22) (tgt := 29) dX7_brightest_22 (by decide) (fun c_22 => ?_) (fun c_22 => ?_)
    ·
      refine xg_iload_n (pc := 29) dX7_brightest_29 rfl ?_
      refine xg_istore_n (pc := 30) (ls' := [some (.ref 62), some (.int ((amx (fun c => glC mf (nI c)) 0 (-1) tq).2)), some (.int ((amx (fun c => glC mf (nI c)) 0 (-1) tq).1)), some (.int (nI tq)), some (.int (glC mf (nI tq)))]) dX7_brightest_30 (by decide) rfl ?_
      refine xg_iload (pc := 31) dX7_brightest_31 rfl ?_
      refine xg_iload_n (pc := 33) dX7_brightest_33 rfl ?_
      refine xg_icmp_le (pc := 34) (tgt := 42) dX7_brightest_34 (by decide) (fun c_34 => ?_) (fun c_34 => ?_)
      ·
        refine xg_iload_n (pc := 42) dX7_brightest_42 rfl ?_
        refine xg_istore_n (pc := 43) (ls' := [some (.ref 62), some (.int ((amx (fun c => glC mf (nI c)) 0 (-1) tq).2)), some (.int ((amx (fun c => glC mf (nI c)) 0 (-1) tq).1)), some (.int (nI tq)), some (.int (glC mf (nI tq)))]) dX7_brightest_43 (by decide) rfl ?_
        refine xg_iinc (pc := 44) (y := nI (tq + 1)) (ls' := [some (.ref 62), some (.int ((amx (fun c => glC mf (nI c)) 0 (-1) tq).2)), some (.int ((amx (fun c => glC mf (nI c)) 0 (-1) tq).1)), some (.int (nI (tq + 1))), some (.int (glC mf (nI tq)))]) dX7_brightest_44 rfl (xinc _) (by decide) rfl ?_
        refine xg_goto (pc := 47) (tgt := 6) dX7_brightest_47 (by decide) ?_
        have e1 : amx (fun c => glC mf (nI c)) 0 (-1) (tq + 1) = amx (fun c => glC mf (nI c)) 0 (-1) tq := if_neg (Int32.not_lt.mpr c_22)
        have z := ih (tq + 1) (by omega)
        rw [e1] at z
        exact z _
      ·
        refine xg_iload (pc := 37) dX7_brightest_37 rfl ?_
        refine xg_goto (pc := 39) (tgt := 43) dX7_brightest_39 (by decide) ?_
        refine xg_istore_n (pc := 43) (ls' := [some (.ref 62), some (.int ((amx (fun c => glC mf (nI c)) 0 (-1) tq).2)), some (.int (glC mf (nI tq))), some (.int (nI tq)), some (.int (glC mf (nI tq)))]) dX7_brightest_43 (by decide) rfl ?_
        refine xg_iinc (pc := 44) (y := nI (tq + 1)) (ls' := [some (.ref 62), some (.int ((amx (fun c => glC mf (nI c)) 0 (-1) tq).2)), some (.int (glC mf (nI tq))), some (.int (nI (tq + 1))), some (.int (glC mf (nI tq)))]) dX7_brightest_44 rfl (xinc _) (by decide) rfl ?_
        refine xg_goto (pc := 47) (tgt := 6) dX7_brightest_47 (by decide) ?_
        exact absurd (by assumption) c_34
    ·
      refine xg_iload_n (pc := 25) dX7_brightest_25 rfl ?_
      refine xg_goto (pc := 26) (tgt := 30) dX7_brightest_26 (by decide) ?_
      refine xg_istore_n (pc := 30) (ls' := [some (.ref 62), some (.int (nI tq)), some (.int ((amx (fun c => glC mf (nI c)) 0 (-1) tq).1)), some (.int (nI tq)), some (.int (glC mf (nI tq)))]) dX7_brightest_30 (by decide) rfl ?_
      refine xg_iload (pc := 31) dX7_brightest_31 rfl ?_
      refine xg_iload_n (pc := 33) dX7_brightest_33 rfl ?_
      refine xg_icmp_le (pc := 34) (tgt := 42) dX7_brightest_34 (by decide) (fun c_34 => ?_) (fun c_34 => ?_)
      ·
        refine xg_iload_n (pc := 42) dX7_brightest_42 rfl ?_
        refine xg_istore_n (pc := 43) (ls' := [some (.ref 62), some (.int (nI tq)), some (.int ((amx (fun c => glC mf (nI c)) 0 (-1) tq).1)), some (.int (nI tq)), some (.int (glC mf (nI tq)))]) dX7_brightest_43 (by decide) rfl ?_
        refine xg_iinc (pc := 44) (y := nI (tq + 1)) (ls' := [some (.ref 62), some (.int (nI tq)), some (.int ((amx (fun c => glC mf (nI c)) 0 (-1) tq).1)), some (.int (nI (tq + 1))), some (.int (glC mf (nI tq)))]) dX7_brightest_44 rfl (xinc _) (by decide) rfl ?_
        refine xg_goto (pc := 47) (tgt := 6) dX7_brightest_47 (by decide) ?_
        exact absurd (by assumption) c_22
      ·
        refine xg_iload (pc := 37) dX7_brightest_37 rfl ?_
        refine xg_goto (pc := 39) (tgt := 43) dX7_brightest_39 (by decide) ?_
        refine xg_istore_n (pc := 43) (ls' := [some (.ref 62), some (.int (nI tq)), some (.int (glC mf (nI tq))), some (.int (nI tq)), some (.int (glC mf (nI tq)))]) dX7_brightest_43 (by decide) rfl ?_
        refine xg_iinc (pc := 44) (y := nI (tq + 1)) (ls' := [some (.ref 62), some (.int (nI tq)), some (.int (glC mf (nI tq))), some (.int (nI (tq + 1))), some (.int (glC mf (nI tq)))]) dX7_brightest_44 rfl (xinc _) (by decide) rfl ?_
        refine xg_goto (pc := 47) (tgt := 6) dX7_brightest_47 (by decide) ?_
        have e1 : amx (fun c => glC mf (nI c)) 0 (-1) (tq + 1) = (glC mf (nI tq), nI tq) := if_pos (Int32.not_le.mp c_22)
        have z := ih (tq + 1) (by omega)
        rw [e1] at z
        exact z _
set_option maxRecDepth 100000 in
set_option maxHeartbeats 4000000 in
theorem ev_X7_brightest  (okp : okP mf) : xEv X false (d + 4) 0 0 mX7_brightest [.ref 62] (hp lk o mf wf q) (RQ lk o q (orM mf (amx (fun c => glC mf (nI c)) 0 (-1) 48).2)) := by
  have ok := okp.1.1
  have h8 := ok.2.1
  have h5 := ok.2.2.2
  refine xEv.of (ls := [some (.ref 62), none, none, none, none]) mcX7_brightest.1.2.2.2.2 (Nat.le_of_ble_eq_true rfl) rfl ?_
  refine xg_iconst (v := -1) (pc := 0) dX7_brightest_0 (by decide) ?_
  refine xg_istore_n (pc := 1) (ls' := [some (.ref 62), some (.int (-1)), none, none, none]) dX7_brightest_1 (by decide) rfl ?_
  refine xg_iconst (v := 0) (pc := 2) dX7_brightest_2 (by decide) ?_
  refine xg_istore_n (pc := 3) (ls' := [some (.ref 62), some (.int (-1)), some (.int 0), none, none]) dX7_brightest_3 (by decide) rfl ?_
  refine xg_iconst (v := 0) (pc := 4) dX7_brightest_4 (by decide) ?_
  refine xg_istore_n (pc := 5) (ls' := [some (.ref 62), some (.int (-1)), some (.int 0), some (.int 0), none]) dX7_brightest_5 (by decide) rfl ?_
  exact lp_X7_brightest okp 48 0 rfl _
set_option maxRecDepth 100000 in
theorem lp_X7_bestBy {j n ka mm : Nat} (okp : okP mf) (hj : j < nB mf) (hn : n < 2 ^ 31) (hk : ka < 65) (hk3 : ka ≠ 3) (hk4 : ka ≠ 4) (hm : mm < 2 ^ 31) (hx : ∀ t, t < mm → okP (upd mf ka (nI t))) : ∀ (k tq : Nat), tq + k = mm → ∀ (l8 : Option Value), xGo X false (d + 9) 0 0 mX7_bestBy 13 [some (.ref 62), some (.int (nI ka)), some (.int (nI mm)), some (.int (nI j)), some (.int (nI n)), some (.int ((amB (Gs mf j n ka) tq).2)), some (.int ((amB (Gs mf j n ka) tq).1)), some (.int (nI tq)), l8] [] (hp lk o (itF (bbS (cpF 65 mf wf) n ka) tq mf) (cpF 65 mf wf) q) (fun v h' => v = [.int ((amB (Gs mf j n ka) mm).2)] ∧ h' = hp lk o (itF (bbS (cpF 65 mf wf) n ka) mm mf) (cpF 65 mf wf) q) := by
  intro k
  induction k with
  | zero =>
    intro tq ht l8
    have etq : tq = mm := by omega
    subst etq
    refine xg_iload (pc := 13) dX7_bestBy_13 rfl ?_
    refine xg_iload_n (pc := 15) dX7_bestBy_15 rfl ?_
    refine xg_icmp_ge (pc := 16) (tgt := 84) dX7_bestBy_16 (by decide) (fun c_16 => ?_) (fun c_16 => absurd c_16 (fun q => q (nI_le (by omega) (by omega))))
    refine xg_iload (pc := 84) dX7_bestBy_84 rfl ?_
    exact xg_iret (pc := 86) dX7_bestBy_86 rfl (⟨by rfl, rfl⟩)
  | succ k ih =>
    intro tq ht l8
    have h5 := okp.h5
    have okx := hx tq (by omega)
    have eg : eq65 mf (itF (bbS (cpF 65 mf wf) n ka) tq mf) := bbS_e eq65_th tq
    have okg := eg.okU okp.1.1 okx hk3 hk4
    have eg4 : upd (itF (bbS (cpF 65 mf wf) n ka) tq mf) ka (nI tq) 4 = mf 4 := by rw [pk_un (Ne.symm hk4)]; exact (eg 4 (by decide)).symm
    refine xg_iload (pc := 13) dX7_bestBy_13 rfl ?_
    refine xg_iload_n (pc := 15) dX7_bestBy_15 rfl ?_
    refine xg_icmp_ge (pc := 16) (tgt := 84) dX7_bestBy_16 (by decide) (fun c_16 => absurd c_16 (nI_ge (by omega) (by omega))) (fun c_16 => ?_)
    refine xg_aload_n (pc := 19) dX7_bestBy_19 rfl ?_
    refine xg_get (pc := 20) dX7_bestBy_20 flX7_9 hp_62 rfl ?_
    refine xg_iload_n (pc := 23) dX7_bestBy_23 rfl ?_
    refine xg_iload (pc := 24) dX7_bestBy_24 rfl ?_
    refine xg_iast (pc := 26) (h' := hp lk o (upd (itF (bbS (cpF 65 mf wf) n ka) tq mf) ka (nI tq)) (cpF 65 mf wf) q) ka dX7_bestBy_26 hp_63 rfl (by omega) (by decide) hs_mf ?_
    refine xg_aload_n (pc := 27) dX7_bestBy_27 rfl ?_
    refine xg_iload_n (pc := 28) dX7_bestBy_28 rfl ?_
    refine xg_iload (pc := 29) dX7_bestBy_29 rfl ?_
    refine xg_cvI (pc := 31) (h1 := hp lk o (cpF 65 (cpF 65 mf wf) (hsC n (upd (itF (bbS (cpF 65 mf wf) n ka) tq mf) ka (nI tq)))) (cpF 65 mf wf) q) (x := wo (hsC n (upd (itF (bbS (cpF 65 mf wf) n ka) tq mf) ka (nI tq))) j) (M' := mX7_worthOn) dX7_bestBy_31 lkX7_156 mcX7_worthOn hp_62 rfl (ev_X7_worthOn (n := n) okg (by rw [nB_of (f := mf) eg4]; exact hj) (by omega)) rfl rfl (Nat.le_of_ble_eq_true rfl) ?_
    refine xg_eq (show _ = (Gs mf j n ka) tq from woU okx eg okp.1.1 (by omega) (by omega) hj) ?_
    refine xg_istore (pc := 34) (ls' := [some (.ref 62), some (.int (nI ka)), some (.int (nI mm)), some (.int (nI j)), some (.int (nI n)), some (.int ((amB (Gs mf j n ka) tq).2)), some (.int ((amB (Gs mf j n ka) tq).1)), some (.int (nI tq)), some (.int ((Gs mf j n ka) tq))]) dX7_bestBy_34 (by decide) rfl ?_
    refine xg_iload (pc := 36) dX7_bestBy_36 rfl ?_
    refine xg_if_le (pc := 38) (tgt := 53) dX7_bestBy_38 (by decide) (fun c_38 => ?_) (fun c_38 => ?_)
    ·
      refine xg_iload (pc := 53) dX7_bestBy_53 rfl ?_
      refine xg_istore (pc := 55) (ls' := [some (.ref 62), some (.int (nI ka)), some (.int (nI mm)), some (.int (nI j)), some (.int (nI n)), some (.int ((amB (Gs mf j n ka) tq).2)), some (.int ((amB (Gs mf j n ka) tq).1)), some (.int (nI tq)), some (.int ((Gs mf j n ka) tq))]) dX7_bestBy_55 (by decide) rfl ?_
      refine xg_iload (pc := 57) dX7_bestBy_57 rfl ?_
      refine xg_if_eq (pc := 59) (tgt := 69) dX7_bestBy_59 (by decide) (fun c_59 => ?_) (fun c_59 => ?_)
      ·
        refine xg_iload (pc := 69) dX7_bestBy_69 rfl ?_
        refine xg_goto (pc := 71) (tgt := 76) dX7_bestBy_71 (by decide) ?_
        refine xg_istore (pc := 76) (ls' := [some (.ref 62), some (.int (nI ka)), some (.int (nI mm)), some (.int (nI j)), some (.int (nI n)), some (.int ((amB (Gs mf j n ka) tq).2)), some (.int ((Gs mf j n ka) tq)), some (.int (nI tq)), some (.int ((Gs mf j n ka) tq))]) dX7_bestBy_76 (by decide) rfl ?_
        refine xg_iinc (pc := 78) (y := nI (tq + 1)) (ls' := [some (.ref 62), some (.int (nI ka)), some (.int (nI mm)), some (.int (nI j)), some (.int (nI n)), some (.int ((amB (Gs mf j n ka) tq).2)), some (.int ((Gs mf j n ka) tq)), some (.int (nI (tq + 1))), some (.int ((Gs mf j n ka) tq))]) dX7_bestBy_78 rfl (xinc _) (by decide) rfl ?_
        refine xg_goto (pc := 81) (tgt := 13) dX7_bestBy_81 (by decide) ?_
        have t0 : tq = 0 := Nat.eq_zero_of_not_pos (fun z => nI_nle z (by omega) c_38)
        subst t0
        have e1 : amB (Gs mf j n ka) (0 + 1) = ((Gs mf j n ka) 0, 0) := rfl
        have z := ih (0 + 1) (by omega)
        rw [e1] at z
        exact z _
      ·
        refine xg_iload (pc := 62) dX7_bestBy_62 rfl ?_
        refine xg_iload (pc := 64) dX7_bestBy_64 rfl ?_
        refine xg_icmp_le (pc := 66) (tgt := 74) dX7_bestBy_66 (by decide) (fun c_66 => ?_) (fun c_66 => ?_)
        ·
          refine xg_iload (pc := 74) dX7_bestBy_74 rfl ?_
          refine xg_istore (pc := 76) (ls' := [some (.ref 62), some (.int (nI ka)), some (.int (nI mm)), some (.int (nI j)), some (.int (nI n)), some (.int ((amB (Gs mf j n ka) tq).2)), some (.int ((amB (Gs mf j n ka) tq).1)), some (.int (nI tq)), some (.int ((Gs mf j n ka) tq))]) dX7_bestBy_76 (by decide) rfl ?_
          refine xg_iinc (pc := 78) (y := nI (tq + 1)) (ls' := [some (.ref 62), some (.int (nI ka)), some (.int (nI mm)), some (.int (nI j)), some (.int (nI n)), some (.int ((amB (Gs mf j n ka) tq).2)), some (.int ((amB (Gs mf j n ka) tq).1)), some (.int (nI (tq + 1))), some (.int ((Gs mf j n ka) tq))]) dX7_bestBy_78 rfl (xinc _) (by decide) rfl ?_
          refine xg_goto (pc := 81) (tgt := 13) dX7_bestBy_81 (by decide) ?_
          have t0 : tq = 0 := Nat.eq_zero_of_not_pos (fun z => nI_nle z (by omega) c_38)
          subst t0
          exact absurd rfl c_59
        ·
          refine xg_iload (pc := 69) dX7_bestBy_69 rfl ?_
          refine xg_goto (pc := 71) (tgt := 76) dX7_bestBy_71 (by decide) ?_
          refine xg_istore (pc := 76) (ls' := [some (.ref 62), some (.int (nI ka)), some (.int (nI mm)), some (.int (nI j)), some (.int (nI n)), some (.int ((amB (Gs mf j n ka) tq).2)), some (.int ((Gs mf j n ka) tq)), some (.int (nI tq)), some (.int ((Gs mf j n ka) tq))]) dX7_bestBy_76 (by decide) rfl ?_
          refine xg_iinc (pc := 78) (y := nI (tq + 1)) (ls' := [some (.ref 62), some (.int (nI ka)), some (.int (nI mm)), some (.int (nI j)), some (.int (nI n)), some (.int ((amB (Gs mf j n ka) tq).2)), some (.int ((Gs mf j n ka) tq)), some (.int (nI (tq + 1))), some (.int ((Gs mf j n ka) tq))]) dX7_bestBy_78 rfl (xinc _) (by decide) rfl ?_
          refine xg_goto (pc := 81) (tgt := 13) dX7_bestBy_81 (by decide) ?_
          have t0 : tq = 0 := Nat.eq_zero_of_not_pos (fun z => nI_nle z (by omega) c_38)
          subst t0
          exact absurd rfl c_59
    ·
      refine xg_iload (pc := 41) dX7_bestBy_41 rfl ?_
      refine xg_iload (pc := 43) dX7_bestBy_43 rfl ?_
      refine xg_icmp_le (pc := 45) (tgt := 53) dX7_bestBy_45 (by decide) (fun c_45 => ?_) (fun c_45 => ?_)
      ·
        refine xg_iload (pc := 53) dX7_bestBy_53 rfl ?_
        refine xg_istore (pc := 55) (ls' := [some (.ref 62), some (.int (nI ka)), some (.int (nI mm)), some (.int (nI j)), some (.int (nI n)), some (.int ((amB (Gs mf j n ka) tq).2)), some (.int ((amB (Gs mf j n ka) tq).1)), some (.int (nI tq)), some (.int ((Gs mf j n ka) tq))]) dX7_bestBy_55 (by decide) rfl ?_
        refine xg_iload (pc := 57) dX7_bestBy_57 rfl ?_
        refine xg_if_eq (pc := 59) (tgt := 69) dX7_bestBy_59 (by decide) (fun c_59 => ?_) (fun c_59 => ?_)
        ·
          refine xg_iload (pc := 69) dX7_bestBy_69 rfl ?_
          refine xg_goto (pc := 71) (tgt := 76) dX7_bestBy_71 (by decide) ?_
          refine xg_istore (pc := 76) (ls' := [some (.ref 62), some (.int (nI ka)), some (.int (nI mm)), some (.int (nI j)), some (.int (nI n)), some (.int ((amB (Gs mf j n ka) tq).2)), some (.int ((Gs mf j n ka) tq)), some (.int (nI tq)), some (.int ((Gs mf j n ka) tq))]) dX7_bestBy_76 (by decide) rfl ?_
          refine xg_iinc (pc := 78) (y := nI (tq + 1)) (ls' := [some (.ref 62), some (.int (nI ka)), some (.int (nI mm)), some (.int (nI j)), some (.int (nI n)), some (.int ((amB (Gs mf j n ka) tq).2)), some (.int ((Gs mf j n ka) tq)), some (.int (nI (tq + 1))), some (.int ((Gs mf j n ka) tq))]) dX7_bestBy_78 rfl (xinc _) (by decide) rfl ?_
          refine xg_goto (pc := 81) (tgt := 13) dX7_bestBy_81 (by decide) ?_
          have t0 : 0 < tq := Nat.pos_of_ne_zero (fun z => c_38 (by rw [z]; decide))
          exact absurd c_59 (nI_ne0 t0 (by omega))
        ·
          refine xg_iload (pc := 62) dX7_bestBy_62 rfl ?_
          refine xg_iload (pc := 64) dX7_bestBy_64 rfl ?_
          refine xg_icmp_le (pc := 66) (tgt := 74) dX7_bestBy_66 (by decide) (fun c_66 => ?_) (fun c_66 => ?_)
          ·
            refine xg_iload (pc := 74) dX7_bestBy_74 rfl ?_
            refine xg_istore (pc := 76) (ls' := [some (.ref 62), some (.int (nI ka)), some (.int (nI mm)), some (.int (nI j)), some (.int (nI n)), some (.int ((amB (Gs mf j n ka) tq).2)), some (.int ((amB (Gs mf j n ka) tq).1)), some (.int (nI tq)), some (.int ((Gs mf j n ka) tq))]) dX7_bestBy_76 (by decide) rfl ?_
            refine xg_iinc (pc := 78) (y := nI (tq + 1)) (ls' := [some (.ref 62), some (.int (nI ka)), some (.int (nI mm)), some (.int (nI j)), some (.int (nI n)), some (.int ((amB (Gs mf j n ka) tq).2)), some (.int ((amB (Gs mf j n ka) tq).1)), some (.int (nI (tq + 1))), some (.int ((Gs mf j n ka) tq))]) dX7_bestBy_78 rfl (xinc _) (by decide) rfl ?_
            refine xg_goto (pc := 81) (tgt := 13) dX7_bestBy_81 (by decide) ?_
            have t0 : 0 < tq := Nat.pos_of_ne_zero (fun z => c_38 (by rw [z]; decide))
            have e1 : amB (Gs mf j n ka) (tq + 1) = amB (Gs mf j n ka) tq := by rw [amB, if_neg (by omega), if_neg (Int32.not_lt.mpr c_45)]
            have z := ih (tq + 1) (by omega)
            rw [e1] at z
            exact z _
          ·
            refine xg_iload (pc := 69) dX7_bestBy_69 rfl ?_
            refine xg_goto (pc := 71) (tgt := 76) dX7_bestBy_71 (by decide) ?_
            refine xg_istore (pc := 76) (ls' := [some (.ref 62), some (.int (nI ka)), some (.int (nI mm)), some (.int (nI j)), some (.int (nI n)), some (.int ((amB (Gs mf j n ka) tq).2)), some (.int ((Gs mf j n ka) tq)), some (.int (nI tq)), some (.int ((Gs mf j n ka) tq))]) dX7_bestBy_76 (by decide) rfl ?_
            refine xg_iinc (pc := 78) (y := nI (tq + 1)) (ls' := [some (.ref 62), some (.int (nI ka)), some (.int (nI mm)), some (.int (nI j)), some (.int (nI n)), some (.int ((amB (Gs mf j n ka) tq).2)), some (.int ((Gs mf j n ka) tq)), some (.int (nI (tq + 1))), some (.int ((Gs mf j n ka) tq))]) dX7_bestBy_78 rfl (xinc _) (by decide) rfl ?_
            refine xg_goto (pc := 81) (tgt := 13) dX7_bestBy_81 (by decide) ?_
            exact absurd (by assumption) c_66
      ·
        refine xg_iload (pc := 48) dX7_bestBy_48 rfl ?_
        refine xg_goto (pc := 50) (tgt := 55) dX7_bestBy_50 (by decide) ?_
        refine xg_istore (pc := 55) (ls' := [some (.ref 62), some (.int (nI ka)), some (.int (nI mm)), some (.int (nI j)), some (.int (nI n)), some (.int (nI tq)), some (.int ((amB (Gs mf j n ka) tq).1)), some (.int (nI tq)), some (.int ((Gs mf j n ka) tq))]) dX7_bestBy_55 (by decide) rfl ?_
        refine xg_iload (pc := 57) dX7_bestBy_57 rfl ?_
        refine xg_if_eq (pc := 59) (tgt := 69) dX7_bestBy_59 (by decide) (fun c_59 => ?_) (fun c_59 => ?_)
        ·
          refine xg_iload (pc := 69) dX7_bestBy_69 rfl ?_
          refine xg_goto (pc := 71) (tgt := 76) dX7_bestBy_71 (by decide) ?_
          refine xg_istore (pc := 76) (ls' := [some (.ref 62), some (.int (nI ka)), some (.int (nI mm)), some (.int (nI j)), some (.int (nI n)), some (.int (nI tq)), some (.int ((Gs mf j n ka) tq)), some (.int (nI tq)), some (.int ((Gs mf j n ka) tq))]) dX7_bestBy_76 (by decide) rfl ?_
          refine xg_iinc (pc := 78) (y := nI (tq + 1)) (ls' := [some (.ref 62), some (.int (nI ka)), some (.int (nI mm)), some (.int (nI j)), some (.int (nI n)), some (.int (nI tq)), some (.int ((Gs mf j n ka) tq)), some (.int (nI (tq + 1))), some (.int ((Gs mf j n ka) tq))]) dX7_bestBy_78 rfl (xinc _) (by decide) rfl ?_
          refine xg_goto (pc := 81) (tgt := 13) dX7_bestBy_81 (by decide) ?_
          have t0 : 0 < tq := Nat.pos_of_ne_zero (fun z => c_38 (by rw [z]; decide))
          exact absurd c_59 (nI_ne0 t0 (by omega))
        ·
          refine xg_iload (pc := 62) dX7_bestBy_62 rfl ?_
          refine xg_iload (pc := 64) dX7_bestBy_64 rfl ?_
          refine xg_icmp_le (pc := 66) (tgt := 74) dX7_bestBy_66 (by decide) (fun c_66 => ?_) (fun c_66 => ?_)
          ·
            refine xg_iload (pc := 74) dX7_bestBy_74 rfl ?_
            refine xg_istore (pc := 76) (ls' := [some (.ref 62), some (.int (nI ka)), some (.int (nI mm)), some (.int (nI j)), some (.int (nI n)), some (.int (nI tq)), some (.int ((amB (Gs mf j n ka) tq).1)), some (.int (nI tq)), some (.int ((Gs mf j n ka) tq))]) dX7_bestBy_76 (by decide) rfl ?_
            refine xg_iinc (pc := 78) (y := nI (tq + 1)) (ls' := [some (.ref 62), some (.int (nI ka)), some (.int (nI mm)), some (.int (nI j)), some (.int (nI n)), some (.int (nI tq)), some (.int ((amB (Gs mf j n ka) tq).1)), some (.int (nI (tq + 1))), some (.int ((Gs mf j n ka) tq))]) dX7_bestBy_78 rfl (xinc _) (by decide) rfl ?_
            refine xg_goto (pc := 81) (tgt := 13) dX7_bestBy_81 (by decide) ?_
            exact absurd (by assumption) c_45
          ·
            refine xg_iload (pc := 69) dX7_bestBy_69 rfl ?_
            refine xg_goto (pc := 71) (tgt := 76) dX7_bestBy_71 (by decide) ?_
            refine xg_istore (pc := 76) (ls' := [some (.ref 62), some (.int (nI ka)), some (.int (nI mm)), some (.int (nI j)), some (.int (nI n)), some (.int (nI tq)), some (.int ((Gs mf j n ka) tq)), some (.int (nI tq)), some (.int ((Gs mf j n ka) tq))]) dX7_bestBy_76 (by decide) rfl ?_
            refine xg_iinc (pc := 78) (y := nI (tq + 1)) (ls' := [some (.ref 62), some (.int (nI ka)), some (.int (nI mm)), some (.int (nI j)), some (.int (nI n)), some (.int (nI tq)), some (.int ((Gs mf j n ka) tq)), some (.int (nI (tq + 1))), some (.int ((Gs mf j n ka) tq))]) dX7_bestBy_78 rfl (xinc _) (by decide) rfl ?_
            refine xg_goto (pc := 81) (tgt := 13) dX7_bestBy_81 (by decide) ?_
            have t0 : 0 < tq := Nat.pos_of_ne_zero (fun z => c_38 (by rw [z]; decide))
            have e1 : amB (Gs mf j n ka) (tq + 1) = ((Gs mf j n ka) tq, nI tq) := by rw [amB, if_neg (by omega), if_pos (Int32.not_le.mp c_45)]
            have z := ih (tq + 1) (by omega)
            rw [e1] at z
            exact z _
set_option maxRecDepth 100000 in
theorem ev_bestBy {j n ka mm : Nat} (okp : okP mf) (hj : j < nB mf) (hn : n < 2 ^ 31) (hk : ka < 65) (hk3 : ka ≠ 3) (hk4 : ka ≠ 4) (hm : mm < 2 ^ 31) (hx : ∀ t, t < mm → okP (upd mf ka (nI t))) : xDv X false (d + 9) mX7_bestBy [.ref 62, .int (nI ka), .int (nI mm), .int (nI j), .int (nI n)] (hp lk o mf wf q) [.int ((amB (Gs mf j n ka) mm).2)] (hp lk o (itF (bbS (cpF 65 mf wf) n ka) mm mf) (cpF 65 mf wf) q) := by
  refine xDv.of (ls := [some (.ref 62), some (.int (nI ka)), some (.int (nI mm)), some (.int (nI j)), some (.int (nI n)), none, none, none, none]) mcX7_bestBy.1.2.2.2.2 (Nat.le_of_ble_eq_true rfl) rfl ?_
  refine xg_aload_n (pc := 0) dX7_bestBy_0 rfl ?_
  refine xg_cvV (pc := 1) (h1 := hp lk o mf (cpF 65 mf wf) q) (M' := mX7_thinks) dX7_bestBy_1 lkX7_147 mcX7_thinks hp_62 rfl (ev_X7_thinks) rfl rfl (Nat.le_of_ble_eq_true rfl) ?_
  refine xg_iconst (v := 0) (pc := 4) dX7_bestBy_4 (by decide) ?_
  refine xg_istore (pc := 5) (ls' := [some (.ref 62), some (.int (nI ka)), some (.int (nI mm)), some (.int (nI j)), some (.int (nI n)), some (.int 0), none, none, none]) dX7_bestBy_5 (by decide) rfl ?_
  refine xg_iconst (v := 0) (pc := 7) dX7_bestBy_7 (by decide) ?_
  refine xg_istore (pc := 8) (ls' := [some (.ref 62), some (.int (nI ka)), some (.int (nI mm)), some (.int (nI j)), some (.int (nI n)), some (.int 0), some (.int 0), none, none]) dX7_bestBy_8 (by decide) rfl ?_
  refine xg_iconst (v := 0) (pc := 10) dX7_bestBy_10 (by decide) ?_
  refine xg_istore (pc := 11) (ls' := [some (.ref 62), some (.int (nI ka)), some (.int (nI mm)), some (.int (nI j)), some (.int (nI n)), some (.int 0), some (.int 0), some (.int 0), none]) dX7_bestBy_11 (by decide) rfl ?_
  exact lp_X7_bestBy okp hj hn hk hk3 hk4 hm hx mm 0 (by omega) _
set_option maxRecDepth 100000 in
theorem lp_X7_bestByA {n ka mm : Nat} (okp : okP mf) (hn : n < 2 ^ 31) (hk : ka < 65) (hk3 : ka ≠ 3) (hk4 : ka ≠ 4) (hm : mm < 2 ^ 31) (hx : ∀ t, t < mm → okP (upd mf ka (nI t))) : ∀ (k tq : Nat), tq + k = mm → ∀ (l8 : Option Value), xGo X false (d + 9) 0 0 mX7_bestBy 13 [some (.ref 62), some (.int (nI ka)), some (.int (nI mm)), some (.int (-1)), some (.int (nI n)), some (.int ((amB (Ga mf n ka) tq).2)), some (.int ((amB (Ga mf n ka) tq).1)), some (.int (nI tq)), l8] [] (hp lk o (itF (bbS (cpF 65 mf wf) n ka) tq mf) (cpF 65 mf wf) q) (fun v h' => v = [.int ((amB (Ga mf n ka) mm).2)] ∧ h' = hp lk o (itF (bbS (cpF 65 mf wf) n ka) mm mf) (cpF 65 mf wf) q) := by
  intro k
  induction k with
  | zero =>
    intro tq ht l8
    have etq : tq = mm := by omega
    subst etq
    refine xg_iload (pc := 13) dX7_bestBy_13 rfl ?_
    refine xg_iload_n (pc := 15) dX7_bestBy_15 rfl ?_
    refine xg_icmp_ge (pc := 16) (tgt := 84) dX7_bestBy_16 (by decide) (fun c_16 => ?_) (fun c_16 => absurd c_16 (fun q => q (nI_le (by omega) (by omega))))
    refine xg_iload (pc := 84) dX7_bestBy_84 rfl ?_
    exact xg_iret (pc := 86) dX7_bestBy_86 rfl (⟨by rfl, rfl⟩)
  | succ k ih =>
    intro tq ht l8
    have h5 := okp.h5
    have okx := hx tq (by omega)
    have eg : eq65 mf (itF (bbS (cpF 65 mf wf) n ka) tq mf) := bbS_e eq65_th tq
    have okg := eg.okU okp.1.1 okx hk3 hk4
    have eg4 : upd (itF (bbS (cpF 65 mf wf) n ka) tq mf) ka (nI tq) 4 = mf 4 := by rw [pk_un (Ne.symm hk4)]; exact (eg 4 (by decide)).symm
    refine xg_iload (pc := 13) dX7_bestBy_13 rfl ?_
    refine xg_iload_n (pc := 15) dX7_bestBy_15 rfl ?_
    refine xg_icmp_ge (pc := 16) (tgt := 84) dX7_bestBy_16 (by decide) (fun c_16 => absurd c_16 (nI_ge (by omega) (by omega))) (fun c_16 => ?_)
    refine xg_aload_n (pc := 19) dX7_bestBy_19 rfl ?_
    refine xg_get (pc := 20) dX7_bestBy_20 flX7_9 hp_62 rfl ?_
    refine xg_iload_n (pc := 23) dX7_bestBy_23 rfl ?_
    refine xg_iload (pc := 24) dX7_bestBy_24 rfl ?_
    refine xg_iast (pc := 26) (h' := hp lk o (upd (itF (bbS (cpF 65 mf wf) n ka) tq mf) ka (nI tq)) (cpF 65 mf wf) q) ka dX7_bestBy_26 hp_63 rfl (by omega) (by decide) hs_mf ?_
    refine xg_aload_n (pc := 27) dX7_bestBy_27 rfl ?_
    refine xg_iload_n (pc := 28) dX7_bestBy_28 rfl ?_
    refine xg_iload (pc := 29) dX7_bestBy_29 rfl ?_
    refine xg_cvI (pc := 31) (h1 := hp lk o (cpF 65 (cpF 65 mf wf) (hsC n (upd (itF (bbS (cpF 65 mf wf) n ka) tq mf) ka (nI tq)))) (cpF 65 mf wf) q) (x := woA (hsC n (upd (itF (bbS (cpF 65 mf wf) n ka) tq mf) ka (nI tq)))) (M' := mX7_worthOn) dX7_bestBy_31 lkX7_156 mcX7_worthOn hp_62 rfl (ev_worthA (n := n) okg (by omega)) rfl rfl (Nat.le_of_ble_eq_true rfl) ?_
    refine xg_eq (show _ = (Ga mf n ka) tq from woAU okx eg okp.1.1 (by omega) (by omega)) ?_
    refine xg_istore (pc := 34) (ls' := [some (.ref 62), some (.int (nI ka)), some (.int (nI mm)), some (.int (-1)), some (.int (nI n)), some (.int ((amB (Ga mf n ka) tq).2)), some (.int ((amB (Ga mf n ka) tq).1)), some (.int (nI tq)), some (.int ((Ga mf n ka) tq))]) dX7_bestBy_34 (by decide) rfl ?_
    refine xg_iload (pc := 36) dX7_bestBy_36 rfl ?_
    refine xg_if_le (pc := 38) (tgt := 53) dX7_bestBy_38 (by decide) (fun c_38 => ?_) (fun c_38 => ?_)
    ·
      refine xg_iload (pc := 53) dX7_bestBy_53 rfl ?_
      refine xg_istore (pc := 55) (ls' := [some (.ref 62), some (.int (nI ka)), some (.int (nI mm)), some (.int (-1)), some (.int (nI n)), some (.int ((amB (Ga mf n ka) tq).2)), some (.int ((amB (Ga mf n ka) tq).1)), some (.int (nI tq)), some (.int ((Ga mf n ka) tq))]) dX7_bestBy_55 (by decide) rfl ?_
      refine xg_iload (pc := 57) dX7_bestBy_57 rfl ?_
      refine xg_if_eq (pc := 59) (tgt := 69) dX7_bestBy_59 (by decide) (fun c_59 => ?_) (fun c_59 => ?_)
      ·
        refine xg_iload (pc := 69) dX7_bestBy_69 rfl ?_
        refine xg_goto (pc := 71) (tgt := 76) dX7_bestBy_71 (by decide) ?_
        refine xg_istore (pc := 76) (ls' := [some (.ref 62), some (.int (nI ka)), some (.int (nI mm)), some (.int (-1)), some (.int (nI n)), some (.int ((amB (Ga mf n ka) tq).2)), some (.int ((Ga mf n ka) tq)), some (.int (nI tq)), some (.int ((Ga mf n ka) tq))]) dX7_bestBy_76 (by decide) rfl ?_
        refine xg_iinc (pc := 78) (y := nI (tq + 1)) (ls' := [some (.ref 62), some (.int (nI ka)), some (.int (nI mm)), some (.int (-1)), some (.int (nI n)), some (.int ((amB (Ga mf n ka) tq).2)), some (.int ((Ga mf n ka) tq)), some (.int (nI (tq + 1))), some (.int ((Ga mf n ka) tq))]) dX7_bestBy_78 rfl (xinc _) (by decide) rfl ?_
        refine xg_goto (pc := 81) (tgt := 13) dX7_bestBy_81 (by decide) ?_
        have t0 : tq = 0 := Nat.eq_zero_of_not_pos (fun z => nI_nle z (by omega) c_38)
        subst t0
        have e1 : amB (Ga mf n ka) (0 + 1) = ((Ga mf n ka) 0, 0) := rfl
        have z := ih (0 + 1) (by omega)
        rw [e1] at z
        exact z _
      ·
        refine xg_iload (pc := 62) dX7_bestBy_62 rfl ?_
        refine xg_iload (pc := 64) dX7_bestBy_64 rfl ?_
        refine xg_icmp_le (pc := 66) (tgt := 74) dX7_bestBy_66 (by decide) (fun c_66 => ?_) (fun c_66 => ?_)
        ·
          refine xg_iload (pc := 74) dX7_bestBy_74 rfl ?_
          refine xg_istore (pc := 76) (ls' := [some (.ref 62), some (.int (nI ka)), some (.int (nI mm)), some (.int (-1)), some (.int (nI n)), some (.int ((amB (Ga mf n ka) tq).2)), some (.int ((amB (Ga mf n ka) tq).1)), some (.int (nI tq)), some (.int ((Ga mf n ka) tq))]) dX7_bestBy_76 (by decide) rfl ?_
          refine xg_iinc (pc := 78) (y := nI (tq + 1)) (ls' := [some (.ref 62), some (.int (nI ka)), some (.int (nI mm)), some (.int (-1)), some (.int (nI n)), some (.int ((amB (Ga mf n ka) tq).2)), some (.int ((amB (Ga mf n ka) tq).1)), some (.int (nI (tq + 1))), some (.int ((Ga mf n ka) tq))]) dX7_bestBy_78 rfl (xinc _) (by decide) rfl ?_
          refine xg_goto (pc := 81) (tgt := 13) dX7_bestBy_81 (by decide) ?_
          have t0 : tq = 0 := Nat.eq_zero_of_not_pos (fun z => nI_nle z (by omega) c_38)
          subst t0
          exact absurd rfl c_59
        ·
          refine xg_iload (pc := 69) dX7_bestBy_69 rfl ?_
          refine xg_goto (pc := 71) (tgt := 76) dX7_bestBy_71 (by decide) ?_
          refine xg_istore (pc := 76) (ls' := [some (.ref 62), some (.int (nI ka)), some (.int (nI mm)), some (.int (-1)), some (.int (nI n)), some (.int ((amB (Ga mf n ka) tq).2)), some (.int ((Ga mf n ka) tq)), some (.int (nI tq)), some (.int ((Ga mf n ka) tq))]) dX7_bestBy_76 (by decide) rfl ?_
          refine xg_iinc (pc := 78) (y := nI (tq + 1)) (ls' := [some (.ref 62), some (.int (nI ka)), some (.int (nI mm)), some (.int (-1)), some (.int (nI n)), some (.int ((amB (Ga mf n ka) tq).2)), some (.int ((Ga mf n ka) tq)), some (.int (nI (tq + 1))), some (.int ((Ga mf n ka) tq))]) dX7_bestBy_78 rfl (xinc _) (by decide) rfl ?_
          refine xg_goto (pc := 81) (tgt := 13) dX7_bestBy_81 (by decide) ?_
          have t0 : tq = 0 := Nat.eq_zero_of_not_pos (fun z => nI_nle z (by omega) c_38)
          subst t0
          exact absurd rfl c_59
    ·
      refine xg_iload (pc := 41) dX7_bestBy_41 rfl ?_
      refine xg_iload (pc := 43) dX7_bestBy_43 rfl ?_
      refine xg_icmp_le (pc := 45) (tgt := 53) dX7_bestBy_45 (by decide) (fun c_45 => ?_) (fun c_45 => ?_)
      ·
        refine xg_iload (pc := 53) dX7_bestBy_53 rfl ?_
        refine xg_istore (pc := 55) (ls' := [some (.ref 62), some (.int (nI ka)), some (.int (nI mm)), some (.int (-1)), some (.int (nI n)), some (.int ((amB (Ga mf n ka) tq).2)), some (.int ((amB (Ga mf n ka) tq).1)), some (.int (nI tq)), some (.int ((Ga mf n ka) tq))]) dX7_bestBy_55 (by decide) rfl ?_
        refine xg_iload (pc := 57) dX7_bestBy_57 rfl ?_
        refine xg_if_eq (pc := 59) (tgt := 69) dX7_bestBy_59 (by decide) (fun c_59 => ?_) (fun c_59 => ?_)
        ·
          refine xg_iload (pc := 69) dX7_bestBy_69 rfl ?_
          refine xg_goto (pc := 71) (tgt := 76) dX7_bestBy_71 (by decide) ?_
          refine xg_istore (pc := 76) (ls' := [some (.ref 62), some (.int (nI ka)), some (.int (nI mm)), some (.int (-1)), some (.int (nI n)), some (.int ((amB (Ga mf n ka) tq).2)), some (.int ((Ga mf n ka) tq)), some (.int (nI tq)), some (.int ((Ga mf n ka) tq))]) dX7_bestBy_76 (by decide) rfl ?_
          refine xg_iinc (pc := 78) (y := nI (tq + 1)) (ls' := [some (.ref 62), some (.int (nI ka)), some (.int (nI mm)), some (.int (-1)), some (.int (nI n)), some (.int ((amB (Ga mf n ka) tq).2)), some (.int ((Ga mf n ka) tq)), some (.int (nI (tq + 1))), some (.int ((Ga mf n ka) tq))]) dX7_bestBy_78 rfl (xinc _) (by decide) rfl ?_
          refine xg_goto (pc := 81) (tgt := 13) dX7_bestBy_81 (by decide) ?_
          have t0 : 0 < tq := Nat.pos_of_ne_zero (fun z => c_38 (by rw [z]; decide))
          exact absurd c_59 (nI_ne0 t0 (by omega))
        ·
          refine xg_iload (pc := 62) dX7_bestBy_62 rfl ?_
          refine xg_iload (pc := 64) dX7_bestBy_64 rfl ?_
          refine xg_icmp_le (pc := 66) (tgt := 74) dX7_bestBy_66 (by decide) (fun c_66 => ?_) (fun c_66 => ?_)
          ·
            refine xg_iload (pc := 74) dX7_bestBy_74 rfl ?_
            refine xg_istore (pc := 76) (ls' := [some (.ref 62), some (.int (nI ka)), some (.int (nI mm)), some (.int (-1)), some (.int (nI n)), some (.int ((amB (Ga mf n ka) tq).2)), some (.int ((amB (Ga mf n ka) tq).1)), some (.int (nI tq)), some (.int ((Ga mf n ka) tq))]) dX7_bestBy_76 (by decide) rfl ?_
            refine xg_iinc (pc := 78) (y := nI (tq + 1)) (ls' := [some (.ref 62), some (.int (nI ka)), some (.int (nI mm)), some (.int (-1)), some (.int (nI n)), some (.int ((amB (Ga mf n ka) tq).2)), some (.int ((amB (Ga mf n ka) tq).1)), some (.int (nI (tq + 1))), some (.int ((Ga mf n ka) tq))]) dX7_bestBy_78 rfl (xinc _) (by decide) rfl ?_
            refine xg_goto (pc := 81) (tgt := 13) dX7_bestBy_81 (by decide) ?_
            have t0 : 0 < tq := Nat.pos_of_ne_zero (fun z => c_38 (by rw [z]; decide))
            have e1 : amB (Ga mf n ka) (tq + 1) = amB (Ga mf n ka) tq := by rw [amB, if_neg (by omega), if_neg (Int32.not_lt.mpr c_45)]
            have z := ih (tq + 1) (by omega)
            rw [e1] at z
            exact z _
          ·
            refine xg_iload (pc := 69) dX7_bestBy_69 rfl ?_
            refine xg_goto (pc := 71) (tgt := 76) dX7_bestBy_71 (by decide) ?_
            refine xg_istore (pc := 76) (ls' := [some (.ref 62), some (.int (nI ka)), some (.int (nI mm)), some (.int (-1)), some (.int (nI n)), some (.int ((amB (Ga mf n ka) tq).2)), some (.int ((Ga mf n ka) tq)), some (.int (nI tq)), some (.int ((Ga mf n ka) tq))]) dX7_bestBy_76 (by decide) rfl ?_
            refine xg_iinc (pc := 78) (y := nI (tq + 1)) (ls' := [some (.ref 62), some (.int (nI ka)), some (.int (nI mm)), some (.int (-1)), some (.int (nI n)), some (.int ((amB (Ga mf n ka) tq).2)), some (.int ((Ga mf n ka) tq)), some (.int (nI (tq + 1))), some (.int ((Ga mf n ka) tq))]) dX7_bestBy_78 rfl (xinc _) (by decide) rfl ?_
            refine xg_goto (pc := 81) (tgt := 13) dX7_bestBy_81 (by decide) ?_
            exact absurd (by assumption) c_66
      ·
        refine xg_iload (pc := 48) dX7_bestBy_48 rfl ?_
        refine xg_goto (pc := 50) (tgt := 55) dX7_bestBy_50 (by decide) ?_
        refine xg_istore (pc := 55) (ls' := [some (.ref 62), some (.int (nI ka)), some (.int (nI mm)), some (.int (-1)), some (.int (nI n)), some (.int (nI tq)), some (.int ((amB (Ga mf n ka) tq).1)), some (.int (nI tq)), some (.int ((Ga mf n ka) tq))]) dX7_bestBy_55 (by decide) rfl ?_
        refine xg_iload (pc := 57) dX7_bestBy_57 rfl ?_
        refine xg_if_eq (pc := 59) (tgt := 69) dX7_bestBy_59 (by decide) (fun c_59 => ?_) (fun c_59 => ?_)
        ·
          refine xg_iload (pc := 69) dX7_bestBy_69 rfl ?_
          refine xg_goto (pc := 71) (tgt := 76) dX7_bestBy_71 (by decide) ?_
          refine xg_istore (pc := 76) (ls' := [some (.ref 62), some (.int (nI ka)), some (.int (nI mm)), some (.int (-1)), some (.int (nI n)), some (.int (nI tq)), some (.int ((Ga mf n ka) tq)), some (.int (nI tq)), some (.int ((Ga mf n ka) tq))]) dX7_bestBy_76 (by decide) rfl ?_
          refine xg_iinc (pc := 78) (y := nI (tq + 1)) (ls' := [some (.ref 62), some (.int (nI ka)), some (.int (nI mm)), some (.int (-1)), some (.int (nI n)), some (.int (nI tq)), some (.int ((Ga mf n ka) tq)), some (.int (nI (tq + 1))), some (.int ((Ga mf n ka) tq))]) dX7_bestBy_78 rfl (xinc _) (by decide) rfl ?_
          refine xg_goto (pc := 81) (tgt := 13) dX7_bestBy_81 (by decide) ?_
          have t0 : 0 < tq := Nat.pos_of_ne_zero (fun z => c_38 (by rw [z]; decide))
          exact absurd c_59 (nI_ne0 t0 (by omega))
        ·
          refine xg_iload (pc := 62) dX7_bestBy_62 rfl ?_
          refine xg_iload (pc := 64) dX7_bestBy_64 rfl ?_
          refine xg_icmp_le (pc := 66) (tgt := 74) dX7_bestBy_66 (by decide) (fun c_66 => ?_) (fun c_66 => ?_)
          ·
            refine xg_iload (pc := 74) dX7_bestBy_74 rfl ?_
            refine xg_istore (pc := 76) (ls' := [some (.ref 62), some (.int (nI ka)), some (.int (nI mm)), some (.int (-1)), some (.int (nI n)), some (.int (nI tq)), some (.int ((amB (Ga mf n ka) tq).1)), some (.int (nI tq)), some (.int ((Ga mf n ka) tq))]) dX7_bestBy_76 (by decide) rfl ?_
            refine xg_iinc (pc := 78) (y := nI (tq + 1)) (ls' := [some (.ref 62), some (.int (nI ka)), some (.int (nI mm)), some (.int (-1)), some (.int (nI n)), some (.int (nI tq)), some (.int ((amB (Ga mf n ka) tq).1)), some (.int (nI (tq + 1))), some (.int ((Ga mf n ka) tq))]) dX7_bestBy_78 rfl (xinc _) (by decide) rfl ?_
            refine xg_goto (pc := 81) (tgt := 13) dX7_bestBy_81 (by decide) ?_
            exact absurd (by assumption) c_45
          ·
            refine xg_iload (pc := 69) dX7_bestBy_69 rfl ?_
            refine xg_goto (pc := 71) (tgt := 76) dX7_bestBy_71 (by decide) ?_
            refine xg_istore (pc := 76) (ls' := [some (.ref 62), some (.int (nI ka)), some (.int (nI mm)), some (.int (-1)), some (.int (nI n)), some (.int (nI tq)), some (.int ((Ga mf n ka) tq)), some (.int (nI tq)), some (.int ((Ga mf n ka) tq))]) dX7_bestBy_76 (by decide) rfl ?_
            refine xg_iinc (pc := 78) (y := nI (tq + 1)) (ls' := [some (.ref 62), some (.int (nI ka)), some (.int (nI mm)), some (.int (-1)), some (.int (nI n)), some (.int (nI tq)), some (.int ((Ga mf n ka) tq)), some (.int (nI (tq + 1))), some (.int ((Ga mf n ka) tq))]) dX7_bestBy_78 rfl (xinc _) (by decide) rfl ?_
            refine xg_goto (pc := 81) (tgt := 13) dX7_bestBy_81 (by decide) ?_
            have t0 : 0 < tq := Nat.pos_of_ne_zero (fun z => c_38 (by rw [z]; decide))
            have e1 : amB (Ga mf n ka) (tq + 1) = ((Ga mf n ka) tq, nI tq) := by rw [amB, if_neg (by omega), if_pos (Int32.not_le.mp c_45)]
            have z := ih (tq + 1) (by omega)
            rw [e1] at z
            exact z _
set_option maxRecDepth 100000 in
theorem ev_bestByA {n ka mm : Nat} (okp : okP mf) (hn : n < 2 ^ 31) (hk : ka < 65) (hk3 : ka ≠ 3) (hk4 : ka ≠ 4) (hm : mm < 2 ^ 31) (hx : ∀ t, t < mm → okP (upd mf ka (nI t))) : xDv X false (d + 9) mX7_bestBy [.ref 62, .int (nI ka), .int (nI mm), .int (-1), .int (nI n)] (hp lk o mf wf q) [.int ((amB (Ga mf n ka) mm).2)] (hp lk o (itF (bbS (cpF 65 mf wf) n ka) mm mf) (cpF 65 mf wf) q) := by
  refine xDv.of (ls := [some (.ref 62), some (.int (nI ka)), some (.int (nI mm)), some (.int (-1)), some (.int (nI n)), none, none, none, none]) mcX7_bestBy.1.2.2.2.2 (Nat.le_of_ble_eq_true rfl) rfl ?_
  refine xg_aload_n (pc := 0) dX7_bestBy_0 rfl ?_
  refine xg_cvV (pc := 1) (h1 := hp lk o mf (cpF 65 mf wf) q) (M' := mX7_thinks) dX7_bestBy_1 lkX7_147 mcX7_thinks hp_62 rfl (ev_X7_thinks) rfl rfl (Nat.le_of_ble_eq_true rfl) ?_
  refine xg_iconst (v := 0) (pc := 4) dX7_bestBy_4 (by decide) ?_
  refine xg_istore (pc := 5) (ls' := [some (.ref 62), some (.int (nI ka)), some (.int (nI mm)), some (.int (-1)), some (.int (nI n)), some (.int 0), none, none, none]) dX7_bestBy_5 (by decide) rfl ?_
  refine xg_iconst (v := 0) (pc := 7) dX7_bestBy_7 (by decide) ?_
  refine xg_istore (pc := 8) (ls' := [some (.ref 62), some (.int (nI ka)), some (.int (nI mm)), some (.int (-1)), some (.int (nI n)), some (.int 0), some (.int 0), none, none]) dX7_bestBy_8 (by decide) rfl ?_
  refine xg_iconst (v := 0) (pc := 10) dX7_bestBy_10 (by decide) ?_
  refine xg_istore (pc := 11) (ls' := [some (.ref 62), some (.int (nI ka)), some (.int (nI mm)), some (.int (-1)), some (.int (nI n)), some (.int 0), some (.int 0), some (.int 0), none]) dX7_bestBy_11 (by decide) rfl ?_
  exact lp_X7_bestByA okp hn hk hk3 hk4 hm hx mm 0 (by omega) _
set_option maxRecDepth 100000 in
set_option maxHeartbeats 4000000 in
theorem ev_X7_spot {b n : Int32} (okp : okP mf) : xEv X false (d + 10) 0 0 mX7_spot [.ref 62, .int b, .int n] (hp lk o mf wf q) (RQ lk o q (sp_best mf (amx (Gs mf (ix b) (ix n) (45 + 4 * ix b)) (-2147483648) 0 48).2 b n (mf 4))) := by
  have ok := okp.1.1
  have h8 := ok.2.1
  have h5 := ok.2.2.2
  refine xEv.of (ls := [some (.ref 62), some (.int b), some (.int n)]) mcX7_spot.1.2.2.2.2 (Nat.le_of_ble_eq_true rfl) rfl ?_
  refine xg_aload_n (pc := 0) dX7_spot_0 rfl ?_
  refine xg_iload_n (pc := 1) dX7_spot_1 rfl ?_
  refine xg_cvI (pc := 2) (h1 := hp lk o mf wf q) (x := if 0 ≤ b ∧ b < mf 4 then 1 else 0) (M' := mX7_isBoat) dX7_spot_2 lkX7_117 mcX7_isBoat hp_62 rfl (ev_isB ok) rfl rfl (Nat.le_of_ble_eq_true rfl) ?_
  refine xg_bz (pc := 5) (tgt := 36) dX7_spot_5 (by decide) (fun c_5 => ?_) (fun c_5 => ?_)
  ·
    refine xg_aload_n (pc := 36) dX7_spot_36 rfl ?_
    refine xg_ldc (v := -1000000001) (pc := 37) dX7_spot_37 ccX7_42 ?_
    refine xg_cvI (pc := 39) (h1 := hp lk o mf wf (q.1, q.2.1, upd q.2.2.1 0 (q.2.2.1 0 + 1), q.2.2.2.1, q.2.2.2.2.1, q.2.2.2.2.2.1, q.2.2.2.2.2.2.1, q.2.2.2.2.2.2.2.1, q.2.2.2.2.2.2.2.2.1, q.2.2.2.2.2.2.2.2.2.1, q.2.2.2.2.2.2.2.2.2.2.1, q.2.2.2.2.2.2.2.2.2.2.2.1, q.2.2.2.2.2.2.2.2.2.2.2.2.1, q.2.2.2.2.2.2.2.2.2.2.2.2.2.1, q.2.2.2.2.2.2.2.2.2.2.2.2.2.2)) (x := -1000000001) (M' := mX7_finds) dX7_spot_39 lkX7_44 mcX7_finds hp_62 rfl (ev_X7_finds (j := 0) (by decide) (by decide)) rfl rfl (Nat.le_of_ble_eq_true rfl) ?_
    exact xg_iret (pc := 42) dX7_spot_42 rfl (rqR (j := (some 0)) (g := mf) (by refine (if_neg (by first | exact ⟨c_5, c_16⟩ | exact (fun q => c_5 q.1) | exact (fun q => c_16 q.2))).trans rfl) (by first | exact eq65.rf | exact bbS_e eq65_th _))
  ·
    refine xg_iload_n (pc := 8) dX7_spot_8 rfl ?_
    refine xg_i2l (pc := 9) dX7_spot_9 ?_
    refine xg_iconst (v := 1) (pc := 10) dX7_spot_10 (by decide) ?_
    refine xg_bipush (v := 24) (pc := 11) dX7_spot_11 (by decide) ?_
    refine xg_csI (pc := 13) (h1 := hp lk o mf wf q) (x := if 1 ≤ n ∧ n ≤ 24 then 1 else 0) (M' := mX7_in) dX7_spot_13 lkX7_48 mcX7_in (ev_in) rfl rfl (Nat.le_of_ble_eq_true rfl) ?_
    refine xg_bz (pc := 16) (tgt := 36) dX7_spot_16 (by decide) (fun c_16 => ?_) (fun c_16 => ?_)
    ·
      refine xg_aload_n (pc := 36) dX7_spot_36 rfl ?_
      refine xg_ldc (v := -1000000001) (pc := 37) dX7_spot_37 ccX7_42 ?_
      refine xg_cvI (pc := 39) (h1 := hp lk o mf wf (q.1, q.2.1, upd q.2.2.1 0 (q.2.2.1 0 + 1), q.2.2.2.1, q.2.2.2.2.1, q.2.2.2.2.2.1, q.2.2.2.2.2.2.1, q.2.2.2.2.2.2.2.1, q.2.2.2.2.2.2.2.2.1, q.2.2.2.2.2.2.2.2.2.1, q.2.2.2.2.2.2.2.2.2.2.1, q.2.2.2.2.2.2.2.2.2.2.2.1, q.2.2.2.2.2.2.2.2.2.2.2.2.1, q.2.2.2.2.2.2.2.2.2.2.2.2.2.1, q.2.2.2.2.2.2.2.2.2.2.2.2.2.2)) (x := -1000000001) (M' := mX7_finds) dX7_spot_39 lkX7_44 mcX7_finds hp_62 rfl (ev_X7_finds (j := 0) (by decide) (by decide)) rfl rfl (Nat.le_of_ble_eq_true rfl) ?_
      exact xg_iret (pc := 42) dX7_spot_42 rfl (rqR (j := (some 0)) (g := mf) (by refine (if_neg (by first | exact ⟨c_5, c_16⟩ | exact (fun q => c_5 q.1) | exact (fun q => c_16 q.2))).trans rfl) (by first | exact eq65.rf | exact bbS_e eq65_th _))
    ·
      obtain ⟨bn, hbn, rfl⟩ := idxB ok c_5
      have ebn : ix (nI bn) = bn := nI_clamp (by omega)
      obtain ⟨nn, hnn, rfl⟩ := rng1 (n := 24) c_16 (by decide)
      have enn : ix (nI nn) = nn := nI_clamp (by omega)
      refine xg_aload_n (pc := 19) dX7_spot_19 rfl ?_
      refine xg_bipush (v := 45) (pc := 20) dX7_spot_20 (by decide) ?_
      refine xg_iconst (v := 4) (pc := 22) dX7_spot_22 (by decide) ?_
      refine xg_iload_n (pc := 23) dX7_spot_23 rfl ?_
      refine xg_imul (pc := 24) dX7_spot_24 ?_
      refine xg_iadd (pc := 25) dX7_spot_25 ?_
      refine xg_bipush (v := 48) (pc := 26) dX7_spot_26 (by decide) ?_
      refine xg_iload_n (pc := 28) dX7_spot_28 rfl ?_
      refine xg_iload_n (pc := 29) dX7_spot_29 rfl ?_
      refine xg_cvI (pc := 30) (h1 := hp lk o (itF (bbS (cpF 65 mf wf) nn (45 + 4 * bn)) 48 mf) (cpF 65 mf wf) q) (x := (amB (Gs mf bn nn (45 + 4 * bn)) 48).2) (M' := mX7_bestBy) dX7_spot_30 lkX7_159 mcX7_bestBy hp_62 rfl (show xDv X false _ mX7_bestBy [.ref 62, .int (45 + (4 * (nI bn))), .int 48, .int (nI bn), .int (nI nn)] (hp lk o mf wf q) [.int (amB (Gs mf bn nn (45 + 4 * bn)) 48).2] (hp lk o (itF (bbS (cpF 65 mf wf) nn (45 + 4 * bn)) 48 mf) (cpF 65 mf wf) q) from by rw [show (45 + (4 * (nI bn)) : Int32) = nI (45 + 4 * bn) from by simp only [xlit, nI_add, pk_mul]]; exact ev_bestBy (mm := 48) (ka := 45 + 4 * bn) (n := nn) okp hbn (by omega) (by omega) (by omega) (by omega) (by decide) (fun t ht => okp.at (by omega) (cell_of ht))) rfl rfl (Nat.le_of_ble_eq_true rfl) ?_
      refine xg_goto (pc := 33) (tgt := 42) dX7_spot_33 (by decide) ?_
      exact xg_iret (pc := 42) dX7_spot_42 rfl (rqR (j := none) (g := mf) (by refine (if_pos ⟨c_5, c_16⟩).trans ?_; rw [ebn, enn, ← amB_amx _ (by decide)]) (by first | exact eq65.rf | exact bbS_e eq65_th _))
set_option maxRecDepth 100000 in
set_option maxHeartbeats 4000000 in
theorem ev_X7_net {b n : Int32} (okp : okP mf) : xEv X false (d + 10) 0 0 mX7_net [.ref 62, .int b, .int n] (hp lk o mf wf q) (RQ lk o q (sp_best mf (amx (Gs mf (ix b) (ix n) (45 + 4 * ix b + 1)) (-2147483648) 0 100).2 b n (mf 4))) := by
  have ok := okp.1.1
  have h8 := ok.2.1
  have h5 := ok.2.2.2
  refine xEv.of (ls := [some (.ref 62), some (.int b), some (.int n)]) mcX7_net.1.2.2.2.2 (Nat.le_of_ble_eq_true rfl) rfl ?_
  refine xg_aload_n (pc := 0) dX7_net_0 rfl ?_
  refine xg_iload_n (pc := 1) dX7_net_1 rfl ?_
  refine xg_cvI (pc := 2) (h1 := hp lk o mf wf q) (x := if 0 ≤ b ∧ b < mf 4 then 1 else 0) (M' := mX7_isBoat) dX7_net_2 lkX7_117 mcX7_isBoat hp_62 rfl (ev_isB ok) rfl rfl (Nat.le_of_ble_eq_true rfl) ?_
  refine xg_bz (pc := 5) (tgt := 38) dX7_net_5 (by decide) (fun c_5 => ?_) (fun c_5 => ?_)
  ·
    refine xg_aload_n (pc := 38) dX7_net_38 rfl ?_
    refine xg_ldc (v := -1000000001) (pc := 39) dX7_net_39 ccX7_42 ?_
    refine xg_cvI (pc := 41) (h1 := hp lk o mf wf (q.1, q.2.1, upd q.2.2.1 0 (q.2.2.1 0 + 1), q.2.2.2.1, q.2.2.2.2.1, q.2.2.2.2.2.1, q.2.2.2.2.2.2.1, q.2.2.2.2.2.2.2.1, q.2.2.2.2.2.2.2.2.1, q.2.2.2.2.2.2.2.2.2.1, q.2.2.2.2.2.2.2.2.2.2.1, q.2.2.2.2.2.2.2.2.2.2.2.1, q.2.2.2.2.2.2.2.2.2.2.2.2.1, q.2.2.2.2.2.2.2.2.2.2.2.2.2.1, q.2.2.2.2.2.2.2.2.2.2.2.2.2.2)) (x := -1000000001) (M' := mX7_finds) dX7_net_41 lkX7_44 mcX7_finds hp_62 rfl (ev_X7_finds (j := 0) (by decide) (by decide)) rfl rfl (Nat.le_of_ble_eq_true rfl) ?_
    exact xg_iret (pc := 44) dX7_net_44 rfl (rqR (j := (some 0)) (g := mf) (by refine (if_neg (by first | exact ⟨c_5, c_16⟩ | exact (fun q => c_5 q.1) | exact (fun q => c_16 q.2))).trans rfl) (by first | exact eq65.rf | exact bbS_e eq65_th _))
  ·
    refine xg_iload_n (pc := 8) dX7_net_8 rfl ?_
    refine xg_i2l (pc := 9) dX7_net_9 ?_
    refine xg_iconst (v := 1) (pc := 10) dX7_net_10 (by decide) ?_
    refine xg_bipush (v := 24) (pc := 11) dX7_net_11 (by decide) ?_
    refine xg_csI (pc := 13) (h1 := hp lk o mf wf q) (x := if 1 ≤ n ∧ n ≤ 24 then 1 else 0) (M' := mX7_in) dX7_net_13 lkX7_48 mcX7_in (ev_in) rfl rfl (Nat.le_of_ble_eq_true rfl) ?_
    refine xg_bz (pc := 16) (tgt := 38) dX7_net_16 (by decide) (fun c_16 => ?_) (fun c_16 => ?_)
    ·
      refine xg_aload_n (pc := 38) dX7_net_38 rfl ?_
      refine xg_ldc (v := -1000000001) (pc := 39) dX7_net_39 ccX7_42 ?_
      refine xg_cvI (pc := 41) (h1 := hp lk o mf wf (q.1, q.2.1, upd q.2.2.1 0 (q.2.2.1 0 + 1), q.2.2.2.1, q.2.2.2.2.1, q.2.2.2.2.2.1, q.2.2.2.2.2.2.1, q.2.2.2.2.2.2.2.1, q.2.2.2.2.2.2.2.2.1, q.2.2.2.2.2.2.2.2.2.1, q.2.2.2.2.2.2.2.2.2.2.1, q.2.2.2.2.2.2.2.2.2.2.2.1, q.2.2.2.2.2.2.2.2.2.2.2.2.1, q.2.2.2.2.2.2.2.2.2.2.2.2.2.1, q.2.2.2.2.2.2.2.2.2.2.2.2.2.2)) (x := -1000000001) (M' := mX7_finds) dX7_net_41 lkX7_44 mcX7_finds hp_62 rfl (ev_X7_finds (j := 0) (by decide) (by decide)) rfl rfl (Nat.le_of_ble_eq_true rfl) ?_
      exact xg_iret (pc := 44) dX7_net_44 rfl (rqR (j := (some 0)) (g := mf) (by refine (if_neg (by first | exact ⟨c_5, c_16⟩ | exact (fun q => c_5 q.1) | exact (fun q => c_16 q.2))).trans rfl) (by first | exact eq65.rf | exact bbS_e eq65_th _))
    ·
      obtain ⟨bn, hbn, rfl⟩ := idxB ok c_5
      have ebn : ix (nI bn) = bn := nI_clamp (by omega)
      obtain ⟨nn, hnn, rfl⟩ := rng1 (n := 24) c_16 (by decide)
      have enn : ix (nI nn) = nn := nI_clamp (by omega)
      refine xg_aload_n (pc := 19) dX7_net_19 rfl ?_
      refine xg_bipush (v := 45) (pc := 20) dX7_net_20 (by decide) ?_
      refine xg_iconst (v := 4) (pc := 22) dX7_net_22 (by decide) ?_
      refine xg_iload_n (pc := 23) dX7_net_23 rfl ?_
      refine xg_imul (pc := 24) dX7_net_24 ?_
      refine xg_iadd (pc := 25) dX7_net_25 ?_
      refine xg_iconst (v := 1) (pc := 26) dX7_net_26 (by decide) ?_
      refine xg_iadd (pc := 27) dX7_net_27 ?_
      refine xg_bipush (v := 100) (pc := 28) dX7_net_28 (by decide) ?_
      refine xg_iload_n (pc := 30) dX7_net_30 rfl ?_
      refine xg_iload_n (pc := 31) dX7_net_31 rfl ?_
      refine xg_cvI (pc := 32) (h1 := hp lk o (itF (bbS (cpF 65 mf wf) nn (45 + 4 * bn + 1)) 100 mf) (cpF 65 mf wf) q) (x := (amB (Gs mf bn nn (45 + 4 * bn + 1)) 100).2) (M' := mX7_bestBy) dX7_net_32 lkX7_159 mcX7_bestBy hp_62 rfl (show xDv X false _ mX7_bestBy [.ref 62, .int ((45 + (4 * (nI bn))) + 1), .int 100, .int (nI bn), .int (nI nn)] (hp lk o mf wf q) [.int (amB (Gs mf bn nn (45 + 4 * bn + 1)) 100).2] (hp lk o (itF (bbS (cpF 65 mf wf) nn (45 + 4 * bn + 1)) 100 mf) (cpF 65 mf wf) q) from by rw [show ((45 + (4 * (nI bn))) + 1 : Int32) = nI (45 + 4 * bn + 1) from by simp only [xlit, nI_add, pk_mul]]; exact ev_bestBy (mm := 100) (ka := 45 + 4 * bn + 1) (n := nn) okp hbn (by omega) (by omega) (by omega) (by omega) (by decide) (fun t ht => okp.ne (by omega) (rg_of (m := 99) (by omega) (by omega)))) rfl rfl (Nat.le_of_ble_eq_true rfl) ?_
      refine xg_goto (pc := 35) (tgt := 44) dX7_net_35 (by decide) ?_
      exact xg_iret (pc := 44) dX7_net_44 rfl (rqR (j := none) (g := mf) (by refine (if_pos ⟨c_5, c_16⟩).trans ?_; rw [ebn, enn, ← amB_amx _ (by decide)]) (by first | exact eq65.rf | exact bbS_e eq65_th _))
set_option maxRecDepth 100000 in
set_option maxHeartbeats 4000000 in
theorem ev_X7_kind {t n : Int32} (okp : okP mf) : xEv X false (d + 10) 0 0 mX7_kind [.ref 62, .int t, .int n] (hp lk o mf wf q) (RQ lk o q (sp_best mf (amx (Ga mf (ix n) (5 + 5 * ix t)) (-2147483648) 0 6).2 t n (mf 3))) := by
  have ok := okp.1.1
  have h8 := ok.2.1
  have h5 := ok.2.2.2
  refine xEv.of (ls := [some (.ref 62), some (.int t), some (.int n)]) mcX7_kind.1.2.2.2.2 (Nat.le_of_ble_eq_true rfl) rfl ?_
  refine xg_aload_n (pc := 0) dX7_kind_0 rfl ?_
  refine xg_iload_n (pc := 1) dX7_kind_1 rfl ?_
  refine xg_cvI (pc := 2) (h1 := hp lk o mf wf q) (x := if 0 ≤ t ∧ t < mf 3 then 1 else 0) (M' := mX7_isThing) dX7_kind_2 lkX7_106 mcX7_isThing hp_62 rfl (ev_isT ok) rfl rfl (Nat.le_of_ble_eq_true rfl) ?_
  refine xg_bz (pc := 5) (tgt := 35) dX7_kind_5 (by decide) (fun c_5 => ?_) (fun c_5 => ?_)
  ·
    refine xg_aload_n (pc := 35) dX7_kind_35 rfl ?_
    refine xg_ldc (v := -1000000001) (pc := 36) dX7_kind_36 ccX7_42 ?_
    refine xg_cvI (pc := 38) (h1 := hp lk o mf wf (q.1, q.2.1, upd q.2.2.1 0 (q.2.2.1 0 + 1), q.2.2.2.1, q.2.2.2.2.1, q.2.2.2.2.2.1, q.2.2.2.2.2.2.1, q.2.2.2.2.2.2.2.1, q.2.2.2.2.2.2.2.2.1, q.2.2.2.2.2.2.2.2.2.1, q.2.2.2.2.2.2.2.2.2.2.1, q.2.2.2.2.2.2.2.2.2.2.2.1, q.2.2.2.2.2.2.2.2.2.2.2.2.1, q.2.2.2.2.2.2.2.2.2.2.2.2.2.1, q.2.2.2.2.2.2.2.2.2.2.2.2.2.2)) (x := -1000000001) (M' := mX7_finds) dX7_kind_38 lkX7_44 mcX7_finds hp_62 rfl (ev_X7_finds (j := 0) (by decide) (by decide)) rfl rfl (Nat.le_of_ble_eq_true rfl) ?_
    exact xg_iret (pc := 41) dX7_kind_41 rfl (rqR (j := (some 0)) (g := mf) (by refine (if_neg (by first | exact ⟨c_5, c_16⟩ | exact (fun q => c_5 q.1) | exact (fun q => c_16 q.2))).trans rfl) (by first | exact eq65.rf | exact bbS_e eq65_th _))
  ·
    refine xg_iload_n (pc := 8) dX7_kind_8 rfl ?_
    refine xg_i2l (pc := 9) dX7_kind_9 ?_
    refine xg_iconst (v := 1) (pc := 10) dX7_kind_10 (by decide) ?_
    refine xg_bipush (v := 24) (pc := 11) dX7_kind_11 (by decide) ?_
    refine xg_csI (pc := 13) (h1 := hp lk o mf wf q) (x := if 1 ≤ n ∧ n ≤ 24 then 1 else 0) (M' := mX7_in) dX7_kind_13 lkX7_48 mcX7_in (ev_in) rfl rfl (Nat.le_of_ble_eq_true rfl) ?_
    refine xg_bz (pc := 16) (tgt := 35) dX7_kind_16 (by decide) (fun c_16 => ?_) (fun c_16 => ?_)
    ·
      refine xg_aload_n (pc := 35) dX7_kind_35 rfl ?_
      refine xg_ldc (v := -1000000001) (pc := 36) dX7_kind_36 ccX7_42 ?_
      refine xg_cvI (pc := 38) (h1 := hp lk o mf wf (q.1, q.2.1, upd q.2.2.1 0 (q.2.2.1 0 + 1), q.2.2.2.1, q.2.2.2.2.1, q.2.2.2.2.2.1, q.2.2.2.2.2.2.1, q.2.2.2.2.2.2.2.1, q.2.2.2.2.2.2.2.2.1, q.2.2.2.2.2.2.2.2.2.1, q.2.2.2.2.2.2.2.2.2.2.1, q.2.2.2.2.2.2.2.2.2.2.2.1, q.2.2.2.2.2.2.2.2.2.2.2.2.1, q.2.2.2.2.2.2.2.2.2.2.2.2.2.1, q.2.2.2.2.2.2.2.2.2.2.2.2.2.2)) (x := -1000000001) (M' := mX7_finds) dX7_kind_38 lkX7_44 mcX7_finds hp_62 rfl (ev_X7_finds (j := 0) (by decide) (by decide)) rfl rfl (Nat.le_of_ble_eq_true rfl) ?_
      exact xg_iret (pc := 41) dX7_kind_41 rfl (rqR (j := (some 0)) (g := mf) (by refine (if_neg (by first | exact ⟨c_5, c_16⟩ | exact (fun q => c_5 q.1) | exact (fun q => c_16 q.2))).trans rfl) (by first | exact eq65.rf | exact bbS_e eq65_th _))
    ·
      obtain ⟨tn, htn, rfl⟩ := idxT ok c_5
      have etn : ix (nI tn) = tn := nI_clamp (by omega)
      obtain ⟨nn, hnn, rfl⟩ := rng1 (n := 24) c_16 (by decide)
      have enn : ix (nI nn) = nn := nI_clamp (by omega)
      refine xg_aload_n (pc := 19) dX7_kind_19 rfl ?_
      refine xg_iconst (v := 5) (pc := 20) dX7_kind_20 (by decide) ?_
      refine xg_iconst (v := 5) (pc := 21) dX7_kind_21 (by decide) ?_
      refine xg_iload_n (pc := 22) dX7_kind_22 rfl ?_
      refine xg_imul (pc := 23) dX7_kind_23 ?_
      refine xg_iadd (pc := 24) dX7_kind_24 ?_
      refine xg_bipush (v := 6) (pc := 25) dX7_kind_25 (by decide) ?_
      refine xg_iconst (v := -1) (pc := 27) dX7_kind_27 (by decide) ?_
      refine xg_iload_n (pc := 28) dX7_kind_28 rfl ?_
      refine xg_cvI (pc := 29) (h1 := hp lk o (itF (bbS (cpF 65 mf wf) nn (5 + 5 * tn)) 6 mf) (cpF 65 mf wf) q) (x := (amB (Ga mf nn (5 + 5 * tn)) 6).2) (M' := mX7_bestBy) dX7_kind_29 lkX7_159 mcX7_bestBy hp_62 rfl (show xDv X false _ mX7_bestBy [.ref 62, .int (5 + (5 * (nI tn))), .int 6, .int (-1), .int (nI nn)] (hp lk o mf wf q) [.int (amB (Ga mf nn (5 + 5 * tn)) 6).2] (hp lk o (itF (bbS (cpF 65 mf wf) nn (5 + 5 * tn)) 6 mf) (cpF 65 mf wf) q) from by rw [show (5 + (5 * (nI tn)) : Int32) = nI (5 + 5 * tn) from by simp only [xlit, nI_add, pk_mul]]; exact ev_bestByA (mm := 6) (ka := 5 + 5 * tn) (n := nn) okp (by omega) (by omega) (by omega) (by omega) (by decide) (fun t ht => okp.ki (by omega) (rg_of (m := 5) (by omega) (by omega)))) rfl rfl (Nat.le_of_ble_eq_true rfl) ?_
      refine xg_goto (pc := 32) (tgt := 41) dX7_kind_32 (by decide) ?_
      exact xg_iret (pc := 41) dX7_kind_41 rfl (rqR (j := none) (g := mf) (by refine (if_pos ⟨c_5, c_16⟩).trans ?_; rw [etn, enn, ← amB_amx _ (by decide)]) (by first | exact eq65.rf | exact bbS_e eq65_th _))
set_option maxRecDepth 100000 in
theorem lp_X7_gives {bn nn : Nat} (okp : okP mf) (hj : bn < nB mf) (hn : nn < 2 ^ 31) : ∀ (k tq : Nat), tq + k = nT mf → ∀ (l6 : Option Value), xGo X false (d + 9) 0 0 mX7_gives 43 [some (.ref 62), some (.int (nI bn)), some (.int (nI nn)), some (.int ((amn (Gl mf bn nn) (wo (hsC nn mf) bn) (-1) tq).2)), some (.int ((amn (Gl mf bn nn) (wo (hsC nn mf) bn) (-1) tq).1)), some (.int (nI tq)), l6] [] (hp lk o (itF (bgS (cpF 65 mf wf) nn) tq (cpF 65 (cpF 65 mf wf) (hsC nn mf))) (cpF 65 mf wf) q) (RQ lk o q (orM mf (amn (Gl mf bn nn) (wo (hsC nn mf) bn) (-1) (nT mf)).2)) := by
  intro k
  induction k with
  | zero =>
    intro tq ht l6
    have h8 := okp.h8
    have etq : tq = nT mf := by omega
    subst etq
    have eg : eq65 mf (itF (bgS (cpF 65 mf wf) nn) (nT mf) (cpF 65 (cpF 65 mf wf) (hsC nn mf))) := bgS_e eq65_th (eq65_pb eq65_th) _
    refine xg_iload (pc := 43) dX7_gives_43 rfl ?_
    refine xg_aload_n (pc := 45) dX7_gives_45 rfl ?_
    refine xg_get (pc := 46) dX7_gives_46 flX7_9 hp_62 rfl ?_
    refine xg_iconst (v := 3) (pc := 49) dX7_gives_49 (by decide) ?_
    refine xg_iald (pc := 50) 3 dX7_gives_50 hp_63 rfl (by omega) (by decide) ?_
    refine xg_eq ((eg 3 (by decide)).symm.trans okp.1.1.1) ?_
    refine xg_icmp_ge (pc := 51) (tgt := 112) dX7_gives_51 (by decide) (fun c_51 => ?_) (fun c_51 => absurd c_51 (fun q => q (nI_le (by omega) (by omega))))
    refine xg_aload_n (pc := 112) dX7_gives_112 rfl ?_
    refine xg_iload_n (pc := 113) dX7_gives_113 rfl ?_
    refine xg_cvI (pc := 114) (h1 := hp lk o (itF (bgS (cpF 65 mf wf) nn) (nT mf) (cpF 65 (cpF 65 mf wf) (hsC nn mf))) (cpF 65 mf wf) (fnQ q (if ((amn (Gl mf bn nn) (wo (hsC nn mf) bn) (-1) (nT mf)).2) < 0 then some 3 else none))) (x := if ((amn (Gl mf bn nn) (wo (hsC nn mf) bn) (-1) (nT mf)).2) < 0 then -1000000004 else ((amn (Gl mf bn nn) (wo (hsC nn mf) bn) (-1) (nT mf)).2)) (M' := mX7_orNone) dX7_gives_114 lkX7_153 mcX7_orNone hp_62 rfl (ev_orN) rfl rfl (Nat.le_of_ble_eq_true rfl) ?_
    exact xg_iret (pc := 117) dX7_gives_117 rfl (rqR (j := (if ((amn (Gl mf bn nn) (wo (hsC nn mf) bn) (-1) (nT mf)).2) < 0 then some 3 else none)) (g := mf) orM_e (eg))
  | succ k ih =>
    intro tq ht l6
    have h5 := okp.h5
    have h8 := okp.h8
    have okx : okP (upd mf (5 + 5 * tq + 3) 0) := okp.li (by omega) (by decide)
    have eg : eq65 mf (itF (bgS (cpF 65 mf wf) nn) tq (cpF 65 (cpF 65 mf wf) (hsC nn mf))) := bgS_e eq65_th (eq65_pb eq65_th) _
    have okg := eg.okU okp.1.1 okx (by omega) (by omega)
    have eg4 : upd (itF (bgS (cpF 65 mf wf) nn) tq (cpF 65 (cpF 65 mf wf) (hsC nn mf))) (5 + 5 * tq + 3) 0 4 = mf 4 := by rw [pk_un (by omega)]; exact (eg 4 (by decide)).symm
    refine xg_iload (pc := 43) dX7_gives_43 rfl ?_
    refine xg_aload_n (pc := 45) dX7_gives_45 rfl ?_
    refine xg_get (pc := 46) dX7_gives_46 flX7_9 hp_62 rfl ?_
    refine xg_iconst (v := 3) (pc := 49) dX7_gives_49 (by decide) ?_
    refine xg_iald (pc := 50) 3 dX7_gives_50 hp_63 rfl (by omega) (by decide) ?_
    refine xg_eq ((eg 3 (by decide)).symm.trans okp.1.1.1) ?_
    refine xg_icmp_ge (pc := 51) (tgt := 112) dX7_gives_51 (by decide) (fun c_51 => absurd c_51 (nI_ge (by omega) (by omega))) (fun c_51 => ?_)
    refine xg_aload_n (pc := 54) dX7_gives_54 rfl ?_
    refine xg_get (pc := 55) dX7_gives_55 flX7_9 hp_62 rfl ?_
    refine xg_iconst (v := 5) (pc := 58) dX7_gives_58 (by decide) ?_
    refine xg_iconst (v := 5) (pc := 59) dX7_gives_59 (by decide) ?_
    refine xg_iload (pc := 60) dX7_gives_60 rfl ?_
    refine xg_imul (pc := 62) dX7_gives_62 ?_
    refine xg_iadd (pc := 63) dX7_gives_63 ?_
    refine xg_iconst (v := 3) (pc := 64) dX7_gives_64 (by decide) ?_
    refine xg_iadd (pc := 65) dX7_gives_65 ?_
    refine xg_iconst (v := 0) (pc := 66) dX7_gives_66 (by decide) ?_
    refine xg_iast (pc := 67) (h' := hp lk o (upd (itF (bgS (cpF 65 mf wf) nn) tq (cpF 65 (cpF 65 mf wf) (hsC nn mf))) (5 + 5 * tq + 3) 0) (cpF 65 mf wf) q) (5 + 5 * tq + 3) dX7_gives_67 hp_63 (by simp only [xlit, nI_add, pk_mul]) (by omega) (by decide) hs_mf ?_
    refine xg_aload_n (pc := 68) dX7_gives_68 rfl ?_
    refine xg_iload_n (pc := 69) dX7_gives_69 rfl ?_
    refine xg_iload_n (pc := 70) dX7_gives_70 rfl ?_
    refine xg_cvI (pc := 71) (h1 := hp lk o (cpF 65 (cpF 65 mf wf) (hsC nn (upd (itF (bgS (cpF 65 mf wf) nn) tq (cpF 65 (cpF 65 mf wf) (hsC nn mf))) (5 + 5 * tq + 3) 0))) (cpF 65 mf wf) q) (x := wo (hsC nn (upd (itF (bgS (cpF 65 mf wf) nn) tq (cpF 65 (cpF 65 mf wf) (hsC nn mf))) (5 + 5 * tq + 3) 0)) bn) (M' := mX7_worthOn) dX7_gives_71 lkX7_156 mcX7_worthOn hp_62 rfl (ev_X7_worthOn (n := nn) okg (by rw [nB_of (f := mf) eg4]; exact hj) (by omega)) rfl rfl (Nat.le_of_ble_eq_true rfl) ?_
    refine xg_eq (show _ = Gl mf bn nn tq from woU okx eg okp.1.1 (by omega) (by omega) hj) ?_
    refine xg_istore (pc := 74) (ls' := [some (.ref 62), some (.int (nI bn)), some (.int (nI nn)), some (.int ((amn (Gl mf bn nn) (wo (hsC nn mf) bn) (-1) tq).2)), some (.int ((amn (Gl mf bn nn) (wo (hsC nn mf) bn) (-1) tq).1)), some (.int (nI tq)), some (.int (Gl mf bn nn tq))]) dX7_gives_74 (by decide) rfl ?_
    refine xg_iload (pc := 76) dX7_gives_76 rfl ?_
    refine xg_iload (pc := 78) dX7_gives_78 rfl ?_
    refine xg_icmp_ge (pc := 80) (tgt := 88) dX7_gives_80 (by decide) (fun c_80 => ?_) (fun c_80 => ?_)
    ·
      refine xg_iload_n (pc := 88) dX7_gives_88 rfl ?_
      refine xg_istore_n (pc := 89) (ls' := [some (.ref 62), some (.int (nI bn)), some (.int (nI nn)), some (.int ((amn (Gl mf bn nn) (wo (hsC nn mf) bn) (-1) tq).2)), some (.int ((amn (Gl mf bn nn) (wo (hsC nn mf) bn) (-1) tq).1)), some (.int (nI tq)), some (.int (Gl mf bn nn tq))]) dX7_gives_89 (by decide) rfl ?_
      refine xg_iload (pc := 90) dX7_gives_90 rfl ?_
      refine xg_iload (pc := 92) dX7_gives_92 rfl ?_
      refine xg_icmp_ge (pc := 94) (tgt := 102) dX7_gives_94 (by decide) (fun c_94 => ?_) (fun c_94 => ?_)
      ·
        refine xg_iload (pc := 102) dX7_gives_102 rfl ?_
        refine xg_istore (pc := 104) (ls' := [some (.ref 62), some (.int (nI bn)), some (.int (nI nn)), some (.int ((amn (Gl mf bn nn) (wo (hsC nn mf) bn) (-1) tq).2)), some (.int ((amn (Gl mf bn nn) (wo (hsC nn mf) bn) (-1) tq).1)), some (.int (nI tq)), some (.int (Gl mf bn nn tq))]) dX7_gives_104 (by decide) rfl ?_
        refine xg_iinc (pc := 106) (y := nI (tq + 1)) (ls' := [some (.ref 62), some (.int (nI bn)), some (.int (nI nn)), some (.int ((amn (Gl mf bn nn) (wo (hsC nn mf) bn) (-1) tq).2)), some (.int ((amn (Gl mf bn nn) (wo (hsC nn mf) bn) (-1) tq).1)), some (.int (nI (tq + 1))), some (.int (Gl mf bn nn tq))]) dX7_gives_106 rfl (xinc _) (by decide) rfl ?_
        refine xg_goto (pc := 109) (tgt := 43) dX7_gives_109 (by decide) ?_
        have e1 : amn (Gl mf bn nn) (wo (hsC nn mf) bn) (-1) (tq + 1) = amn (Gl mf bn nn) (wo (hsC nn mf) bn) (-1) tq := if_neg (Int32.not_lt.mpr c_80)
        have z := ih (tq + 1) (by omega)
        rw [e1] at z
        exact z _
      ·
        refine xg_iload (pc := 97) dX7_gives_97 rfl ?_
        refine xg_goto (pc := 99) (tgt := 104) dX7_gives_99 (by decide) ?_
        refine xg_istore (pc := 104) (ls' := [some (.ref 62), some (.int (nI bn)), some (.int (nI nn)), some (.int ((amn (Gl mf bn nn) (wo (hsC nn mf) bn) (-1) tq).2)), some (.int (Gl mf bn nn tq)), some (.int (nI tq)), some (.int (Gl mf bn nn tq))]) dX7_gives_104 (by decide) rfl ?_
        refine xg_iinc (pc := 106) (y := nI (tq + 1)) (ls' := [some (.ref 62), some (.int (nI bn)), some (.int (nI nn)), some (.int ((amn (Gl mf bn nn) (wo (hsC nn mf) bn) (-1) tq).2)), some (.int (Gl mf bn nn tq)), some (.int (nI (tq + 1))), some (.int (Gl mf bn nn tq))]) dX7_gives_106 rfl (xinc _) (by decide) rfl ?_
        refine xg_goto (pc := 109) (tgt := 43) dX7_gives_109 (by decide) ?_
        exact absurd (by assumption) c_94
    ·
      refine xg_iload (pc := 83) dX7_gives_83 rfl ?_
      refine xg_goto (pc := 85) (tgt := 89) dX7_gives_85 (by decide) ?_
      refine xg_istore_n (pc := 89) (ls' := [some (.ref 62), some (.int (nI bn)), some (.int (nI nn)), some (.int (nI tq)), some (.int ((amn (Gl mf bn nn) (wo (hsC nn mf) bn) (-1) tq).1)), some (.int (nI tq)), some (.int (Gl mf bn nn tq))]) dX7_gives_89 (by decide) rfl ?_
      refine xg_iload (pc := 90) dX7_gives_90 rfl ?_
      refine xg_iload (pc := 92) dX7_gives_92 rfl ?_
      refine xg_icmp_ge (pc := 94) (tgt := 102) dX7_gives_94 (by decide) (fun c_94 => ?_) (fun c_94 => ?_)
      ·
        refine xg_iload (pc := 102) dX7_gives_102 rfl ?_
        refine xg_istore (pc := 104) (ls' := [some (.ref 62), some (.int (nI bn)), some (.int (nI nn)), some (.int (nI tq)), some (.int ((amn (Gl mf bn nn) (wo (hsC nn mf) bn) (-1) tq).1)), some (.int (nI tq)), some (.int (Gl mf bn nn tq))]) dX7_gives_104 (by decide) rfl ?_
        refine xg_iinc (pc := 106) (y := nI (tq + 1)) (ls' := [some (.ref 62), some (.int (nI bn)), some (.int (nI nn)), some (.int (nI tq)), some (.int ((amn (Gl mf bn nn) (wo (hsC nn mf) bn) (-1) tq).1)), some (.int (nI (tq + 1))), some (.int (Gl mf bn nn tq))]) dX7_gives_106 rfl (xinc _) (by decide) rfl ?_
        refine xg_goto (pc := 109) (tgt := 43) dX7_gives_109 (by decide) ?_
        exact absurd (by assumption) c_80
      ·
        refine xg_iload (pc := 97) dX7_gives_97 rfl ?_
        refine xg_goto (pc := 99) (tgt := 104) dX7_gives_99 (by decide) ?_
        refine xg_istore (pc := 104) (ls' := [some (.ref 62), some (.int (nI bn)), some (.int (nI nn)), some (.int (nI tq)), some (.int (Gl mf bn nn tq)), some (.int (nI tq)), some (.int (Gl mf bn nn tq))]) dX7_gives_104 (by decide) rfl ?_
        refine xg_iinc (pc := 106) (y := nI (tq + 1)) (ls' := [some (.ref 62), some (.int (nI bn)), some (.int (nI nn)), some (.int (nI tq)), some (.int (Gl mf bn nn tq)), some (.int (nI (tq + 1))), some (.int (Gl mf bn nn tq))]) dX7_gives_106 rfl (xinc _) (by decide) rfl ?_
        refine xg_goto (pc := 109) (tgt := 43) dX7_gives_109 (by decide) ?_
        have e1 : amn (Gl mf bn nn) (wo (hsC nn mf) bn) (-1) (tq + 1) = (Gl mf bn nn tq, nI tq) := if_pos (Int32.not_le.mp c_80)
        have z := ih (tq + 1) (by omega)
        rw [e1] at z
        exact z _
set_option maxRecDepth 100000 in
set_option maxHeartbeats 4000000 in
theorem ev_X7_gives {b n : Int32} (okp : okP mf) : xEv X false (d + 9) 0 0 mX7_gives [.ref 62, .int b, .int n] (hp lk o mf wf q) (RQ lk o q (sp_gives mf (amn (Gl mf (ix b) (ix n)) (wo (hsC (ix n) mf) (ix b)) (-1) (nT mf)).2 b n)) := by
  have ok := okp.1.1
  have h8 := ok.2.1
  have h5 := ok.2.2.2
  refine xEv.of (ls := [some (.ref 62), some (.int b), some (.int n), none, none, none, none]) mcX7_gives.1.2.2.2.2 (Nat.le_of_ble_eq_true rfl) rfl ?_
  refine xg_aload_n (pc := 0) dX7_gives_0 rfl ?_
  refine xg_iload_n (pc := 1) dX7_gives_1 rfl ?_
  refine xg_cvI (pc := 2) (h1 := hp lk o mf wf q) (x := if 0 ≤ b ∧ b < mf 4 then 1 else 0) (M' := mX7_isBoat) dX7_gives_2 lkX7_117 mcX7_isBoat hp_62 rfl (ev_isB ok) rfl rfl (Nat.le_of_ble_eq_true rfl) ?_
  refine xg_bz (pc := 5) (tgt := 19) dX7_gives_5 (by decide) (fun c_5 => ?_) (fun c_5 => ?_)
  ·
    refine xg_aload_n (pc := 19) dX7_gives_19 rfl ?_
    refine xg_ldc (v := -1000000001) (pc := 20) dX7_gives_20 ccX7_42 ?_
    refine xg_cvI (pc := 22) (h1 := hp lk o mf wf (q.1, q.2.1, upd q.2.2.1 0 (q.2.2.1 0 + 1), q.2.2.2.1, q.2.2.2.2.1, q.2.2.2.2.2.1, q.2.2.2.2.2.2.1, q.2.2.2.2.2.2.2.1, q.2.2.2.2.2.2.2.2.1, q.2.2.2.2.2.2.2.2.2.1, q.2.2.2.2.2.2.2.2.2.2.1, q.2.2.2.2.2.2.2.2.2.2.2.1, q.2.2.2.2.2.2.2.2.2.2.2.2.1, q.2.2.2.2.2.2.2.2.2.2.2.2.2.1, q.2.2.2.2.2.2.2.2.2.2.2.2.2.2)) (x := -1000000001) (M' := mX7_finds) dX7_gives_22 lkX7_44 mcX7_finds hp_62 rfl (ev_X7_finds (j := 0) (by decide) (by decide)) rfl rfl (Nat.le_of_ble_eq_true rfl) ?_
    exact xg_iret (pc := 25) dX7_gives_25 rfl (rqR (j := (some 0)) (g := mf) (by unfold sp_gives; refine (if_neg (by first | exact ⟨c_5, c_16⟩ | exact (fun q => c_5 q.1) | exact (fun q => c_16 q.2))).trans ?_; first | (with_reducible rfl) | (simp only [*, ix_0, ix_1, ix_2, ix_3, ix_4]; done) | (simp [*, ix_0, ix_1, ix_2, ix_3, ix_4]; done) | rfl | (simp_all [ix_0, ix_1, ix_2, ix_3, ix_4]; done)) (by first | exact eq65.rf | exact eq65_cp))
  ·
    refine xg_iload_n (pc := 8) dX7_gives_8 rfl ?_
    refine xg_i2l (pc := 9) dX7_gives_9 ?_
    refine xg_iconst (v := 1) (pc := 10) dX7_gives_10 (by decide) ?_
    refine xg_bipush (v := 24) (pc := 11) dX7_gives_11 (by decide) ?_
    refine xg_csI (pc := 13) (h1 := hp lk o mf wf q) (x := if 1 ≤ n ∧ n ≤ 24 then 1 else 0) (M' := mX7_in) dX7_gives_13 lkX7_48 mcX7_in (ev_in) rfl rfl (Nat.le_of_ble_eq_true rfl) ?_
    refine xg_bnz (pc := 16) (tgt := 26) dX7_gives_16 (by decide) (fun c_16 => ?_) (fun c_16 => ?_)
    ·
      obtain ⟨bn, hbn, rfl⟩ := idxB ok c_5
      have ebn : ix (nI bn) = bn := nI_clamp (by omega)
      obtain ⟨nn, hnn, rfl⟩ := rng1 (n := 24) c_16 (by decide)
      have enn : ix (nI nn) = nn := nI_clamp (by omega)
      refine xg_aload_n (pc := 26) dX7_gives_26 rfl ?_
      refine xg_cvV (pc := 27) (h1 := hp lk o mf (cpF 65 mf wf) q) (M' := mX7_thinks) dX7_gives_27 lkX7_147 mcX7_thinks hp_62 rfl (ev_X7_thinks) rfl rfl (Nat.le_of_ble_eq_true rfl) ?_
      refine xg_iconst (v := -1) (pc := 30) dX7_gives_30 (by decide) ?_
      refine xg_istore_n (pc := 31) (ls' := [some (.ref 62), some (.int (nI bn)), some (.int (nI nn)), some (.int (-1)), none, none, none]) dX7_gives_31 (by decide) rfl ?_
      refine xg_aload_n (pc := 32) dX7_gives_32 rfl ?_
      refine xg_iload_n (pc := 33) dX7_gives_33 rfl ?_
      refine xg_iload_n (pc := 34) dX7_gives_34 rfl ?_
      refine xg_cvI (pc := 35) (h1 := hp lk o (cpF 65 (cpF 65 mf wf) (hsC nn mf)) (cpF 65 mf wf) q) (x := wo (hsC nn mf) bn) (M' := mX7_worthOn) dX7_gives_35 lkX7_156 mcX7_worthOn hp_62 rfl (ev_X7_worthOn (n := nn) okp hbn (by omega)) rfl rfl (Nat.le_of_ble_eq_true rfl) ?_
      refine xg_istore (pc := 38) (ls' := [some (.ref 62), some (.int (nI bn)), some (.int (nI nn)), some (.int (-1)), some (.int (wo (hsC nn mf) bn)), none, none]) dX7_gives_38 (by decide) rfl ?_
      refine xg_iconst (v := 0) (pc := 40) dX7_gives_40 (by decide) ?_
      refine xg_istore (pc := 41) (ls' := [some (.ref 62), some (.int (nI bn)), some (.int (nI nn)), some (.int (-1)), some (.int (wo (hsC nn mf) bn)), some (.int 0), none]) dX7_gives_41 (by decide) rfl ?_
      rw [show sp_gives mf (amn (Gl mf (ix (nI bn)) (ix (nI nn))) (wo (hsC (ix (nI nn)) mf) (ix (nI bn))) (-1) (nT mf)).2 (nI bn) (nI nn) = orM mf (amn (Gl mf bn nn) (wo (hsC nn mf) bn) (-1) (nT mf)).2 from by unfold sp_gives; rw [if_pos ⟨c_5, c_16⟩, ebn, enn]]
      exact lp_X7_gives okp hbn (by omega) (nT mf) 0 (by omega) _
    ·
      refine xg_aload_n (pc := 19) dX7_gives_19 rfl ?_
      refine xg_ldc (v := -1000000001) (pc := 20) dX7_gives_20 ccX7_42 ?_
      refine xg_cvI (pc := 22) (h1 := hp lk o mf wf (q.1, q.2.1, upd q.2.2.1 0 (q.2.2.1 0 + 1), q.2.2.2.1, q.2.2.2.2.1, q.2.2.2.2.2.1, q.2.2.2.2.2.2.1, q.2.2.2.2.2.2.2.1, q.2.2.2.2.2.2.2.2.1, q.2.2.2.2.2.2.2.2.2.1, q.2.2.2.2.2.2.2.2.2.2.1, q.2.2.2.2.2.2.2.2.2.2.2.1, q.2.2.2.2.2.2.2.2.2.2.2.2.1, q.2.2.2.2.2.2.2.2.2.2.2.2.2.1, q.2.2.2.2.2.2.2.2.2.2.2.2.2.2)) (x := -1000000001) (M' := mX7_finds) dX7_gives_22 lkX7_44 mcX7_finds hp_62 rfl (ev_X7_finds (j := 0) (by decide) (by decide)) rfl rfl (Nat.le_of_ble_eq_true rfl) ?_
      exact xg_iret (pc := 25) dX7_gives_25 rfl (rqR (j := (some 0)) (g := mf) (by unfold sp_gives; refine (if_neg (by first | exact ⟨c_5, c_16⟩ | exact (fun q => c_5 q.1) | exact (fun q => c_16 q.2))).trans ?_; first | (with_reducible rfl) | (simp only [*, ix_0, ix_1, ix_2, ix_3, ix_4]; done) | (simp [*, ix_0, ix_1, ix_2, ix_3, ix_4]; done) | rfl | (simp_all [ix_0, ix_1, ix_2, ix_3, ix_4]; done)) (by first | exact eq65.rf | exact eq65_cp))
set_option maxRecDepth 100000 in
set_option maxHeartbeats 4000000 in
theorem ev_X7_rival {b b' n : Int32} (okp : okP mf) : xEv X false (d + 9) 0 0 mX7_rival [.ref 62, .int b, .int b', .int n] (hp lk o mf wf q) (RQ lk o q (sp_rival mf (wo (hsC (ix n) (upd mf (45 + 4 * ix b' + 1) 0)) (ix b) - wo (hsC (ix n) mf) (ix b)) b b' n)) := by
  have ok := okp.1.1
  have h8 := ok.2.1
  have h5 := ok.2.2.2
  refine xEv.of (ls := [some (.ref 62), some (.int b), some (.int b'), some (.int n), none]) mcX7_rival.1.2.2.2.2 (Nat.le_of_ble_eq_true rfl) rfl ?_
  refine xg_aload_n (pc := 0) dX7_rival_0 rfl ?_
  refine xg_iload_n (pc := 1) dX7_rival_1 rfl ?_
  refine xg_cvI (pc := 2) (h1 := hp lk o mf wf q) (x := if 0 ≤ b ∧ b < mf 4 then 1 else 0) (M' := mX7_isBoat) dX7_rival_2 lkX7_117 mcX7_isBoat hp_62 rfl (ev_isB ok) rfl rfl (Nat.le_of_ble_eq_true rfl) ?_
  refine xg_bz (pc := 5) (tgt := 32) dX7_rival_5 (by decide) (fun c_5 => ?_) (fun c_5 => ?_)
  ·
    refine xg_aload_n (pc := 32) dX7_rival_32 rfl ?_
    refine xg_ldc (v := -1000000001) (pc := 33) dX7_rival_33 ccX7_42 ?_
    refine xg_cvI (pc := 35) (h1 := hp lk o mf wf (q.1, q.2.1, upd q.2.2.1 0 (q.2.2.1 0 + 1), q.2.2.2.1, q.2.2.2.2.1, q.2.2.2.2.2.1, q.2.2.2.2.2.2.1, q.2.2.2.2.2.2.2.1, q.2.2.2.2.2.2.2.2.1, q.2.2.2.2.2.2.2.2.2.1, q.2.2.2.2.2.2.2.2.2.2.1, q.2.2.2.2.2.2.2.2.2.2.2.1, q.2.2.2.2.2.2.2.2.2.2.2.2.1, q.2.2.2.2.2.2.2.2.2.2.2.2.2.1, q.2.2.2.2.2.2.2.2.2.2.2.2.2.2)) (x := -1000000001) (M' := mX7_finds) dX7_rival_35 lkX7_44 mcX7_finds hp_62 rfl (ev_X7_finds (j := 0) (by decide) (by decide)) rfl rfl (Nat.le_of_ble_eq_true rfl) ?_
    exact xg_iret (pc := 38) dX7_rival_38 rfl (rqR (j := (some 0)) (g := mf) (by unfold sp_rival; refine (if_neg (by first | exact ⟨⟨c_5, c_13, c_18⟩, c_29⟩ | exact (fun q => c_5 q.1.1) | exact (fun q => c_13 q.1.2.1) | exact (fun q => q.1.2.2 c_18) | exact (fun q => c_18 q.1.2.2) | exact (fun q => c_29 q.2))).trans ?_; first | (with_reducible rfl) | (simp only [*, ix_0, ix_1, ix_2, ix_3, ix_4]; done) | (simp [*, ix_0, ix_1, ix_2, ix_3, ix_4]; done) | rfl | (simp_all [ix_0, ix_1, ix_2, ix_3, ix_4]; done)) (by first | exact eq65.rf | exact eq65_pb eq65_th))
  ·
    refine xg_aload_n (pc := 8) dX7_rival_8 rfl ?_
    refine xg_iload_n (pc := 9) dX7_rival_9 rfl ?_
    refine xg_cvI (pc := 10) (h1 := hp lk o mf wf q) (x := if 0 ≤ b' ∧ b' < mf 4 then 1 else 0) (M' := mX7_isBoat) dX7_rival_10 lkX7_117 mcX7_isBoat hp_62 rfl (ev_isB ok) rfl rfl (Nat.le_of_ble_eq_true rfl) ?_
    refine xg_bz (pc := 13) (tgt := 32) dX7_rival_13 (by decide) (fun c_13 => ?_) (fun c_13 => ?_)
    ·
      refine xg_aload_n (pc := 32) dX7_rival_32 rfl ?_
      refine xg_ldc (v := -1000000001) (pc := 33) dX7_rival_33 ccX7_42 ?_
      refine xg_cvI (pc := 35) (h1 := hp lk o mf wf (q.1, q.2.1, upd q.2.2.1 0 (q.2.2.1 0 + 1), q.2.2.2.1, q.2.2.2.2.1, q.2.2.2.2.2.1, q.2.2.2.2.2.2.1, q.2.2.2.2.2.2.2.1, q.2.2.2.2.2.2.2.2.1, q.2.2.2.2.2.2.2.2.2.1, q.2.2.2.2.2.2.2.2.2.2.1, q.2.2.2.2.2.2.2.2.2.2.2.1, q.2.2.2.2.2.2.2.2.2.2.2.2.1, q.2.2.2.2.2.2.2.2.2.2.2.2.2.1, q.2.2.2.2.2.2.2.2.2.2.2.2.2.2)) (x := -1000000001) (M' := mX7_finds) dX7_rival_35 lkX7_44 mcX7_finds hp_62 rfl (ev_X7_finds (j := 0) (by decide) (by decide)) rfl rfl (Nat.le_of_ble_eq_true rfl) ?_
      exact xg_iret (pc := 38) dX7_rival_38 rfl (rqR (j := (some 0)) (g := mf) (by unfold sp_rival; refine (if_neg (by first | exact ⟨⟨c_5, c_13, c_18⟩, c_29⟩ | exact (fun q => c_5 q.1.1) | exact (fun q => c_13 q.1.2.1) | exact (fun q => q.1.2.2 c_18) | exact (fun q => c_18 q.1.2.2) | exact (fun q => c_29 q.2))).trans ?_; first | (with_reducible rfl) | (simp only [*, ix_0, ix_1, ix_2, ix_3, ix_4]; done) | (simp [*, ix_0, ix_1, ix_2, ix_3, ix_4]; done) | rfl | (simp_all [ix_0, ix_1, ix_2, ix_3, ix_4]; done)) (by first | exact eq65.rf | exact eq65_pb eq65_th))
    ·
      refine xg_iload_n (pc := 16) dX7_rival_16 rfl ?_
      refine xg_iload_n (pc := 17) dX7_rival_17 rfl ?_
      refine xg_icmp_eq (pc := 18) (tgt := 32) dX7_rival_18 (by decide) (fun c_18 => ?_) (fun c_18 => ?_)
      ·
        refine xg_aload_n (pc := 32) dX7_rival_32 rfl ?_
        refine xg_ldc (v := -1000000001) (pc := 33) dX7_rival_33 ccX7_42 ?_
        refine xg_cvI (pc := 35) (h1 := hp lk o mf wf (q.1, q.2.1, upd q.2.2.1 0 (q.2.2.1 0 + 1), q.2.2.2.1, q.2.2.2.2.1, q.2.2.2.2.2.1, q.2.2.2.2.2.2.1, q.2.2.2.2.2.2.2.1, q.2.2.2.2.2.2.2.2.1, q.2.2.2.2.2.2.2.2.2.1, q.2.2.2.2.2.2.2.2.2.2.1, q.2.2.2.2.2.2.2.2.2.2.2.1, q.2.2.2.2.2.2.2.2.2.2.2.2.1, q.2.2.2.2.2.2.2.2.2.2.2.2.2.1, q.2.2.2.2.2.2.2.2.2.2.2.2.2.2)) (x := -1000000001) (M' := mX7_finds) dX7_rival_35 lkX7_44 mcX7_finds hp_62 rfl (ev_X7_finds (j := 0) (by decide) (by decide)) rfl rfl (Nat.le_of_ble_eq_true rfl) ?_
        exact xg_iret (pc := 38) dX7_rival_38 rfl (rqR (j := (some 0)) (g := mf) (by unfold sp_rival; refine (if_neg (by first | exact ⟨⟨c_5, c_13, c_18⟩, c_29⟩ | exact (fun q => c_5 q.1.1) | exact (fun q => c_13 q.1.2.1) | exact (fun q => q.1.2.2 c_18) | exact (fun q => c_18 q.1.2.2) | exact (fun q => c_29 q.2))).trans ?_; first | (with_reducible rfl) | (simp only [*, ix_0, ix_1, ix_2, ix_3, ix_4]; done) | (simp [*, ix_0, ix_1, ix_2, ix_3, ix_4]; done) | rfl | (simp_all [ix_0, ix_1, ix_2, ix_3, ix_4]; done)) (by first | exact eq65.rf | exact eq65_pb eq65_th))
      ·
        refine xg_iload_n (pc := 21) dX7_rival_21 rfl ?_
        refine xg_i2l (pc := 22) dX7_rival_22 ?_
        refine xg_iconst (v := 1) (pc := 23) dX7_rival_23 (by decide) ?_
        refine xg_bipush (v := 24) (pc := 24) dX7_rival_24 (by decide) ?_
        refine xg_csI (pc := 26) (h1 := hp lk o mf wf q) (x := if 1 ≤ n ∧ n ≤ 24 then 1 else 0) (M' := mX7_in) dX7_rival_26 lkX7_48 mcX7_in (ev_in) rfl rfl (Nat.le_of_ble_eq_true rfl) ?_
        refine xg_bnz (pc := 29) (tgt := 39) dX7_rival_29 (by decide) (fun c_29 => ?_) (fun c_29 => ?_)
        ·
          obtain ⟨bn, hbn, rfl⟩ := idxB ok c_5
          have ebn : ix (nI bn) = bn := nI_clamp (by omega)
          obtain ⟨bm, hbm, rfl⟩ := idxB ok c_13
          have ebm : ix (nI bm) = bm := nI_clamp (by omega)
          obtain ⟨nn, hnn, rfl⟩ := rng1 (n := 24) c_29 (by decide)
          have enn : ix (nI nn) = nn := nI_clamp (by omega)
          have okx : okP (upd mf (45 + 4 * bm + 1) 0) := okp.ne (by omega) (by decide)
          have eg : eq65 mf (cpF 65 (cpF 65 mf wf) (hsC nn mf)) := eq65_pb eq65_th
          have okg := eg.okU okp.1.1 okx (by omega) (by omega)
          have eg4 : upd (cpF 65 (cpF 65 mf wf) (hsC nn mf)) (45 + 4 * bm + 1) 0 4 = mf 4 := by rw [pk_un (by omega)]; exact (eg 4 (by decide)).symm
          refine xg_aload_n (pc := 39) dX7_rival_39 rfl ?_
          refine xg_cvV (pc := 40) (h1 := hp lk o mf (cpF 65 mf wf) q) (M' := mX7_thinks) dX7_rival_40 lkX7_147 mcX7_thinks hp_62 rfl (ev_X7_thinks) rfl rfl (Nat.le_of_ble_eq_true rfl) ?_
          refine xg_aload_n (pc := 43) dX7_rival_43 rfl ?_
          refine xg_iload_n (pc := 44) dX7_rival_44 rfl ?_
          refine xg_iload_n (pc := 45) dX7_rival_45 rfl ?_
          refine xg_cvI (pc := 46) (h1 := hp lk o (cpF 65 (cpF 65 mf wf) (hsC nn mf)) (cpF 65 mf wf) q) (x := wo (hsC nn mf) bn) (M' := mX7_worthOn) dX7_rival_46 lkX7_156 mcX7_worthOn hp_62 rfl (ev_X7_worthOn (n := nn) okp hbn (by omega)) rfl rfl (Nat.le_of_ble_eq_true rfl) ?_
          refine xg_istore (pc := 49) (ls' := [some (.ref 62), some (.int (nI bn)), some (.int (nI bm)), some (.int (nI nn)), some (.int (wo (hsC nn mf) bn))]) dX7_rival_49 (by decide) rfl ?_
          refine xg_aload_n (pc := 51) dX7_rival_51 rfl ?_
          refine xg_iload_n (pc := 52) dX7_rival_52 rfl ?_
          refine xg_iconst (v := 1) (pc := 53) dX7_rival_53 (by decide) ?_
          refine xg_iconst (v := 0) (pc := 54) dX7_rival_54 (by decide) ?_
          refine xg_cvV (pc := 55) (h1 := hp lk o (upd (cpF 65 (cpF 65 mf wf) (hsC nn mf)) (45 + 4 * bm + 1) 0) (cpF 65 mf wf) q) (M' := mX7_gets) dX7_rival_55 lkX7_110 mcX7_gets hp_62 rfl (ev_X7_gets (j := bm) (w := 1) (by omega)) rfl rfl (Nat.le_of_ble_eq_true rfl) ?_
          refine xg_aload_n (pc := 58) dX7_rival_58 rfl ?_
          refine xg_iload_n (pc := 59) dX7_rival_59 rfl ?_
          refine xg_iload_n (pc := 60) dX7_rival_60 rfl ?_
          refine xg_cvI (pc := 61) (h1 := hp lk o (cpF 65 (cpF 65 mf wf) (hsC nn (upd (cpF 65 (cpF 65 mf wf) (hsC nn mf)) (45 + 4 * bm + 1) 0))) (cpF 65 mf wf) q) (x := wo (hsC nn (upd (cpF 65 (cpF 65 mf wf) (hsC nn mf)) (45 + 4 * bm + 1) 0)) bn) (M' := mX7_worthOn) dX7_rival_61 lkX7_156 mcX7_worthOn hp_62 rfl (ev_X7_worthOn (n := nn) okg (by rw [nB_of (f := mf) eg4]; exact hbn) (by omega)) rfl rfl (Nat.le_of_ble_eq_true rfl) ?_
          refine xg_eq (woU okx eg okp.1.1 (by omega) (by omega) hbn) ?_
          refine xg_iload (pc := 64) dX7_rival_64 rfl ?_
          refine xg_isub (pc := 66) dX7_rival_66 ?_
          exact xg_iret (pc := 67) dX7_rival_67 rfl (rqR (j := none) (g := mf) (by unfold sp_rival; refine (if_pos (by first | exact ⟨⟨c_5, c_13, c_18⟩, c_29⟩ | exact (fun q => c_5 q.1.1) | exact (fun q => c_13 q.1.2.1) | exact (fun q => q.1.2.2 c_18) | exact (fun q => c_18 q.1.2.2) | exact (fun q => c_29 q.2))).trans ?_; first | (with_reducible rfl) | (simp only [*, ix_0, ix_1, ix_2, ix_3, ix_4]; done) | (simp [*, ix_0, ix_1, ix_2, ix_3, ix_4]; done) | rfl | (simp_all [ix_0, ix_1, ix_2, ix_3, ix_4]; done)) (by first | exact eq65.rf | exact eq65_pb eq65_th))
        ·
          refine xg_aload_n (pc := 32) dX7_rival_32 rfl ?_
          refine xg_ldc (v := -1000000001) (pc := 33) dX7_rival_33 ccX7_42 ?_
          refine xg_cvI (pc := 35) (h1 := hp lk o mf wf (q.1, q.2.1, upd q.2.2.1 0 (q.2.2.1 0 + 1), q.2.2.2.1, q.2.2.2.2.1, q.2.2.2.2.2.1, q.2.2.2.2.2.2.1, q.2.2.2.2.2.2.2.1, q.2.2.2.2.2.2.2.2.1, q.2.2.2.2.2.2.2.2.2.1, q.2.2.2.2.2.2.2.2.2.2.1, q.2.2.2.2.2.2.2.2.2.2.2.1, q.2.2.2.2.2.2.2.2.2.2.2.2.1, q.2.2.2.2.2.2.2.2.2.2.2.2.2.1, q.2.2.2.2.2.2.2.2.2.2.2.2.2.2)) (x := -1000000001) (M' := mX7_finds) dX7_rival_35 lkX7_44 mcX7_finds hp_62 rfl (ev_X7_finds (j := 0) (by decide) (by decide)) rfl rfl (Nat.le_of_ble_eq_true rfl) ?_
          exact xg_iret (pc := 38) dX7_rival_38 rfl (rqR (j := (some 0)) (g := mf) (by unfold sp_rival; refine (if_neg (by first | exact ⟨⟨c_5, c_13, c_18⟩, c_29⟩ | exact (fun q => c_5 q.1.1) | exact (fun q => c_13 q.1.2.1) | exact (fun q => q.1.2.2 c_18) | exact (fun q => c_18 q.1.2.2) | exact (fun q => c_29 q.2))).trans ?_; first | (with_reducible rfl) | (simp only [*, ix_0, ix_1, ix_2, ix_3, ix_4]; done) | (simp [*, ix_0, ix_1, ix_2, ix_3, ix_4]; done) | rfl | (simp_all [ix_0, ix_1, ix_2, ix_3, ix_4]; done)) (by first | exact eq65.rf | exact eq65_pb eq65_th))
set_option maxRecDepth 100000 in
theorem lp_X7_time {c : Int32} (okp : okP mf) (hc : 0 ≤ c ∧ c ≤ 47) : ∀ (k tq : Nat), tq + k = 24 → ∀ (l6 : Option Value), xGo X false (d + 4) 0 0 mX7_time 29 [some (.ref 62), some (.int c), some (.int (mf 0)), some (.int ((amx (Gh mf c) (-1) 0 tq).2)), some (.int ((amx (Gh mf c) (-1) 0 tq).1)), some (.int (nI tq)), l6] [] (hp lk o (itF tmS tq mf) wf q) (RQ lk o q ((amx (Gh mf c) (-1) 0 24).2, none, mf)) := by
  intro k
  induction k with
  | zero =>
    intro tq ht l6
    have etq : tq = 24 := by omega
    subst etq
    refine xg_iload (pc := 29) dX7_time_29 rfl ?_
    refine xg_bipush (v := 24) (pc := 31) dX7_time_31 (by decide) ?_
    refine xg_icmp_ge (pc := 33) (tgt := 87) dX7_time_33 (by decide) (fun c_33 => ?_) (fun c_33 => absurd c_33 (by decide))
    refine xg_aload_n (pc := 87) dX7_time_87 rfl ?_
    refine xg_get (pc := 88) dX7_time_88 flX7_9 hp_62 rfl ?_
    refine xg_iconst (v := 0) (pc := 91) dX7_time_91 (by decide) ?_
    refine xg_iload_n (pc := 92) dX7_time_92 rfl ?_
    refine xg_iast (pc := 93) (h' := hp lk o (upd (itF tmS 24 mf) 0 (mf 0)) wf q) 0 dX7_time_93 hp_63 rfl (by omega) (by decide) hs_mf ?_
    refine xg_iload_n (pc := 94) dX7_time_94 rfl ?_
    exact xg_iret (pc := 95) dX7_time_95 rfl (rqR (j := none) (g := mf) rfl (by rw [tmS_e, upd_id]; exact eq65.rf))
  | succ k ih =>
    intro tq ht l6
    refine xg_iload (pc := 29) dX7_time_29 rfl ?_
    refine xg_bipush (v := 24) (pc := 31) dX7_time_31 (by decide) ?_
    refine xg_icmp_ge (pc := 33) (tgt := 87) dX7_time_33 (by decide) (fun c_33 => absurd c_33 (nI_ge (b := 24) (by omega) (by omega))) (fun c_33 => ?_)
    refine xg_aload_n (pc := 36) dX7_time_36 rfl ?_
    refine xg_get (pc := 37) dX7_time_37 flX7_9 hp_62 rfl ?_
    refine xg_iconst (v := 0) (pc := 40) dX7_time_40 (by decide) ?_
    refine xg_iload (pc := 41) dX7_time_41 rfl ?_
    refine xg_iast (pc := 43) (h' := hp lk o (upd (itF tmS tq mf) 0 (nI tq)) wf q) 0 dX7_time_43 hp_63 rfl (by omega) (by decide) hs_mf ?_
    refine xg_aload_n (pc := 44) dX7_time_44 rfl ?_
    refine xg_iload_n (pc := 45) dX7_time_45 rfl ?_
    refine xg_cvI (pc := 46) (h1 := hp lk o (upd (itF tmS tq mf) 0 (nI tq)) wf q) (x := glR (upd (itF tmS tq mf) 0 (nI tq)) c) (M' := mX7_glintOf) dX7_time_46 lkX7_86 mcX7_glintOf hp_62 rfl (ev_X7_glintOf (by rw [tmS_e]; exact (okp.lo (by decide)).1.1) hc) rfl rfl (Nat.le_of_ble_eq_true rfl) ?_
    refine xg_eq (show _ = Gh mf c tq from by rw [tmS_e, glR_C (okp.lo (by decide))]; rfl) ?_
    refine xg_istore (pc := 49) (ls' := [some (.ref 62), some (.int c), some (.int (mf 0)), some (.int ((amx (Gh mf c) (-1) 0 tq).2)), some (.int ((amx (Gh mf c) (-1) 0 tq).1)), some (.int (nI tq)), some (.int (Gh mf c tq))]) dX7_time_49 (by decide) rfl ?_
    refine xg_iload (pc := 51) dX7_time_51 rfl ?_
    refine xg_iload (pc := 53) dX7_time_53 rfl ?_
    refine xg_icmp_le (pc := 55) (tgt := 63) dX7_time_55 (by decide) (fun c_55 => ?_) (fun c_55 => ?_)
    ·
      refine xg_iload_n (pc := 63) dX7_time_63 rfl ?_
      refine xg_istore_n (pc := 64) (ls' := [some (.ref 62), some (.int c), some (.int (mf 0)), some (.int ((amx (Gh mf c) (-1) 0 tq).2)), some (.int ((amx (Gh mf c) (-1) 0 tq).1)), some (.int (nI tq)), some (.int (Gh mf c tq))]) dX7_time_64 (by decide) rfl ?_
      refine xg_iload (pc := 65) dX7_time_65 rfl ?_
      refine xg_iload (pc := 67) dX7_time_67 rfl ?_
      refine xg_icmp_le (pc := 69) (tgt := 77) dX7_time_69 (by decide) (fun c_69 => ?_) (fun c_69 => ?_)
      ·
        refine xg_iload (pc := 77) dX7_time_77 rfl ?_
        refine xg_istore (pc := 79) (ls' := [some (.ref 62), some (.int c), some (.int (mf 0)), some (.int ((amx (Gh mf c) (-1) 0 tq).2)), some (.int ((amx (Gh mf c) (-1) 0 tq).1)), some (.int (nI tq)), some (.int (Gh mf c tq))]) dX7_time_79 (by decide) rfl ?_
        refine xg_iinc (pc := 81) (y := nI (tq + 1)) (ls' := [some (.ref 62), some (.int c), some (.int (mf 0)), some (.int ((amx (Gh mf c) (-1) 0 tq).2)), some (.int ((amx (Gh mf c) (-1) 0 tq).1)), some (.int (nI (tq + 1))), some (.int (Gh mf c tq))]) dX7_time_81 rfl (xinc _) (by decide) rfl ?_
        refine xg_goto (pc := 84) (tgt := 29) dX7_time_84 (by decide) ?_
        have e1 : amx (Gh mf c) (-1) 0 (tq + 1) = amx (Gh mf c) (-1) 0 tq := if_neg (Int32.not_lt.mpr c_55)
        have z := ih (tq + 1) (by omega)
        rw [e1] at z
        exact z _
      ·
        refine xg_iload (pc := 72) dX7_time_72 rfl ?_
        refine xg_goto (pc := 74) (tgt := 79) dX7_time_74 (by decide) ?_
        refine xg_istore (pc := 79) (ls' := [some (.ref 62), some (.int c), some (.int (mf 0)), some (.int ((amx (Gh mf c) (-1) 0 tq).2)), some (.int (Gh mf c tq)), some (.int (nI tq)), some (.int (Gh mf c tq))]) dX7_time_79 (by decide) rfl ?_
        refine xg_iinc (pc := 81) (y := nI (tq + 1)) (ls' := [some (.ref 62), some (.int c), some (.int (mf 0)), some (.int ((amx (Gh mf c) (-1) 0 tq).2)), some (.int (Gh mf c tq)), some (.int (nI (tq + 1))), some (.int (Gh mf c tq))]) dX7_time_81 rfl (xinc _) (by decide) rfl ?_
        refine xg_goto (pc := 84) (tgt := 29) dX7_time_84 (by decide) ?_
        exact absurd (by assumption) c_69
    ·
      refine xg_iload (pc := 58) dX7_time_58 rfl ?_
      refine xg_goto (pc := 60) (tgt := 64) dX7_time_60 (by decide) ?_
      refine xg_istore_n (pc := 64) (ls' := [some (.ref 62), some (.int c), some (.int (mf 0)), some (.int (nI tq)), some (.int ((amx (Gh mf c) (-1) 0 tq).1)), some (.int (nI tq)), some (.int (Gh mf c tq))]) dX7_time_64 (by decide) rfl ?_
      refine xg_iload (pc := 65) dX7_time_65 rfl ?_
      refine xg_iload (pc := 67) dX7_time_67 rfl ?_
      refine xg_icmp_le (pc := 69) (tgt := 77) dX7_time_69 (by decide) (fun c_69 => ?_) (fun c_69 => ?_)
      ·
        refine xg_iload (pc := 77) dX7_time_77 rfl ?_
        refine xg_istore (pc := 79) (ls' := [some (.ref 62), some (.int c), some (.int (mf 0)), some (.int (nI tq)), some (.int ((amx (Gh mf c) (-1) 0 tq).1)), some (.int (nI tq)), some (.int (Gh mf c tq))]) dX7_time_79 (by decide) rfl ?_
        refine xg_iinc (pc := 81) (y := nI (tq + 1)) (ls' := [some (.ref 62), some (.int c), some (.int (mf 0)), some (.int (nI tq)), some (.int ((amx (Gh mf c) (-1) 0 tq).1)), some (.int (nI (tq + 1))), some (.int (Gh mf c tq))]) dX7_time_81 rfl (xinc _) (by decide) rfl ?_
        refine xg_goto (pc := 84) (tgt := 29) dX7_time_84 (by decide) ?_
        exact absurd (by assumption) c_55
      ·
        refine xg_iload (pc := 72) dX7_time_72 rfl ?_
        refine xg_goto (pc := 74) (tgt := 79) dX7_time_74 (by decide) ?_
        refine xg_istore (pc := 79) (ls' := [some (.ref 62), some (.int c), some (.int (mf 0)), some (.int (nI tq)), some (.int (Gh mf c tq)), some (.int (nI tq)), some (.int (Gh mf c tq))]) dX7_time_79 (by decide) rfl ?_
        refine xg_iinc (pc := 81) (y := nI (tq + 1)) (ls' := [some (.ref 62), some (.int c), some (.int (mf 0)), some (.int (nI tq)), some (.int (Gh mf c tq)), some (.int (nI (tq + 1))), some (.int (Gh mf c tq))]) dX7_time_81 rfl (xinc _) (by decide) rfl ?_
        refine xg_goto (pc := 84) (tgt := 29) dX7_time_84 (by decide) ?_
        have e1 : amx (Gh mf c) (-1) 0 (tq + 1) = (Gh mf c tq, nI tq) := if_pos (Int32.not_le.mp c_55)
        have z := ih (tq + 1) (by omega)
        rw [e1] at z
        exact z _
set_option maxRecDepth 100000 in
set_option maxHeartbeats 4000000 in
theorem ev_X7_time {c : Int32} (okp : okP mf) : xEv X false (d + 4) 0 0 mX7_time [.ref 62, .int c] (hp lk o mf wf q) (RQ lk o q (sp_time mf (amx (Gh mf c) (-1) 0 24).2 c)) := by
  have ok := okp.1.1
  have h8 := ok.2.1
  have h5 := ok.2.2.2
  refine xEv.of (ls := [some (.ref 62), some (.int c), none, none, none, none, none]) mcX7_time.1.2.2.2.2 (Nat.le_of_ble_eq_true rfl) rfl ?_
  refine xg_iload_n (pc := 0) dX7_time_0 rfl ?_
  refine xg_csI (pc := 1) (h1 := hp lk o mf wf q) (x := if 0 ≤ c ∧ c ≤ 47 then 1 else 0) (M' := mX7_isCell) dX7_time_1 lkX7_83 mcX7_isCell (ev_X7_isCell) rfl rfl (Nat.le_of_ble_eq_true rfl) ?_
  refine xg_bnz (pc := 4) (tgt := 14) dX7_time_4 (by decide) (fun c_4 => ?_) (fun c_4 => ?_)
  ·
    refine xg_aload_n (pc := 14) dX7_time_14 rfl ?_
    refine xg_get (pc := 15) dX7_time_15 flX7_9 hp_62 rfl ?_
    refine xg_iconst (v := 0) (pc := 18) dX7_time_18 (by decide) ?_
    refine xg_iald (pc := 19) 0 dX7_time_19 hp_63 rfl (by omega) (by decide) ?_
    refine xg_istore_n (pc := 20) (ls' := [some (.ref 62), some (.int c), some (.int (mf 0)), none, none, none, none]) dX7_time_20 (by decide) rfl ?_
    refine xg_iconst (v := 0) (pc := 21) dX7_time_21 (by decide) ?_
    refine xg_istore_n (pc := 22) (ls' := [some (.ref 62), some (.int c), some (.int (mf 0)), some (.int 0), none, none, none]) dX7_time_22 (by decide) rfl ?_
    refine xg_iconst (v := -1) (pc := 23) dX7_time_23 (by decide) ?_
    refine xg_istore (pc := 24) (ls' := [some (.ref 62), some (.int c), some (.int (mf 0)), some (.int 0), some (.int (-1)), none, none]) dX7_time_24 (by decide) rfl ?_
    refine xg_iconst (v := 0) (pc := 26) dX7_time_26 (by decide) ?_
    refine xg_istore (pc := 27) (ls' := [some (.ref 62), some (.int c), some (.int (mf 0)), some (.int 0), some (.int (-1)), some (.int 0), none]) dX7_time_27 (by decide) rfl ?_
    rw [show sp_time mf (amx (Gh mf c) (-1) 0 24).2 c = ((amx (Gh mf c) (-1) 0 24).2, none, mf) from if_pos c_4]
    exact lp_X7_time okp c_4 24 0 rfl _
  ·
    refine xg_aload_n (pc := 7) dX7_time_7 rfl ?_
    refine xg_ldc (v := -1000000001) (pc := 8) dX7_time_8 ccX7_42 ?_
    refine xg_cvI (pc := 10) (h1 := hp lk o mf wf (q.1, q.2.1, upd q.2.2.1 0 (q.2.2.1 0 + 1), q.2.2.2.1, q.2.2.2.2.1, q.2.2.2.2.2.1, q.2.2.2.2.2.2.1, q.2.2.2.2.2.2.2.1, q.2.2.2.2.2.2.2.2.1, q.2.2.2.2.2.2.2.2.2.1, q.2.2.2.2.2.2.2.2.2.2.1, q.2.2.2.2.2.2.2.2.2.2.2.1, q.2.2.2.2.2.2.2.2.2.2.2.2.1, q.2.2.2.2.2.2.2.2.2.2.2.2.2.1, q.2.2.2.2.2.2.2.2.2.2.2.2.2.2)) (x := -1000000001) (M' := mX7_finds) dX7_time_10 lkX7_44 mcX7_finds hp_62 rfl (ev_X7_finds (j := 0) (by decide) (by decide)) rfl rfl (Nat.le_of_ble_eq_true rfl) ?_
    exact xg_iret (pc := 13) dX7_time_13 rfl (rqR (j := (some 0)) (g := mf) (by unfold sp_time; refine (if_neg (by exact c_4)).trans ?_; first | (with_reducible rfl) | (simp only [*, ix_0, ix_1, ix_2, ix_3, ix_4]; done) | (simp [*, ix_0, ix_1, ix_2, ix_3, ix_4]; done) | rfl | (simp_all [ix_0, ix_1, ix_2, ix_3, ix_4]; done)) (by first | exact eq65.rf | exact eq65_cp))
end
