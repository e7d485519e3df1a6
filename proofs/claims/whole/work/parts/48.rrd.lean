section
variable {X : xS} {d : Nat} {lk : Nat → Nat → Int32} {o : xO} {mf wf : Nat → Int32} {q : xQ} {L : Nat} {t : Tk}
set_option maxRecDepth 100000 in
theorem ev_X7_isByte {k : Nat} {lo hi : Int32} (hL : q.2.2.2.2.2.2.1 = nI L) (hL2 : L ≤ 120) (hk : k ≤ L) : xDv X false (d + 1) mX7_isByte [.ref 62, .int (nI k), .int lo, .int hi] (hp lk o mf wf q) [.int (if k < L ∧ lo ≤ q.2.2.2.2.2.1 k ∧ q.2.2.2.2.2.1 k ≤ hi then 1 else 0)] (hp lk o mf wf q) := by
  refine xDv.of (ls := [some (.ref 62), some (.int (nI k)), some (.int lo), some (.int hi)]) mcX7_isByte.1.2.2.2.2 (Nat.le_of_ble_eq_true rfl) rfl ?_
  refine xg_iload_n (pc := 0) dX7_isByte_0 rfl ?_
  refine xg_aload_n (pc := 1) dX7_isByte_1 rfl ?_
  refine xg_get (pc := 2) dX7_isByte_2 flX7_169 hp_62 rfl ?_
  refine xg_eq hL ?_
  refine xg_icmp_ge (pc := 5) (tgt := 27) dX7_isByte_5 (by decide) (fun c_5 => ?_) (fun c_5 => ?_)
  ·
    refine xg_iconst (v := 0) (pc := 27) dX7_isByte_27 (by decide) ?_
    exact xg_zret (pc := 28) (ty := .boolean) dX7_isByte_28 rfl rfl (⟨by rw [if_neg (fun z => nI_ge z.1 (by omega) c_5)], rfl⟩)
  ·
    have hkL : k < L := Nat.lt_of_not_le (fun z => c_5 (nI_le z (by omega)))
    refine xg_aload_n (pc := 8) dX7_isByte_8 rfl ?_
    refine xg_get (pc := 9) dX7_isByte_9 flX7_29 hp_62 rfl ?_
    refine xg_iload_n (pc := 12) dX7_isByte_12 rfl ?_
    refine xg_iald (pc := 13) k dX7_isByte_13 hp_69 rfl (by omega) (by decide) ?_
    refine xg_i2l (pc := 14) dX7_isByte_14 ?_
    refine xg_iload_n (pc := 15) dX7_isByte_15 rfl ?_
    refine xg_iload_n (pc := 16) dX7_isByte_16 rfl ?_
    refine xg_csI (pc := 17) (h1 := hp lk o mf wf q) (x := if lo ≤ (q.2.2.2.2.2.1 k) ∧ (q.2.2.2.2.2.1 k) ≤ hi then 1 else 0) (M' := mX7_in) dX7_isByte_17 lkX7_48 mcX7_in (ev_in) rfl rfl (Nat.le_of_ble_eq_true rfl) ?_
    refine xg_bz (pc := 20) (tgt := 27) dX7_isByte_20 (by decide) (fun c_20 => ?_) (fun c_20 => ?_)
    ·
      refine xg_iconst (v := 0) (pc := 27) dX7_isByte_27 (by decide) ?_
      exact xg_zret (pc := 28) (ty := .boolean) dX7_isByte_28 rfl rfl (⟨by rw [if_neg (fun z => c_20 z.2)], rfl⟩)
    ·
      refine xg_iconst (v := 1) (pc := 23) dX7_isByte_23 (by decide) ?_
      refine xg_goto (pc := 24) (tgt := 28) dX7_isByte_24 (by decide) ?_
      exact xg_zret (pc := 28) (ty := .boolean) dX7_isByte_28 rfl rfl (⟨by rw [if_pos ⟨Nat.lt_of_not_le (fun z => c_5 (nI_le z (by omega))), c_20⟩], rfl⟩)
theorem ev_isB1 {k : Nat} (hL : q.2.2.2.2.2.2.1 = nI L) (hL2 : L ≤ 120) (hk : k ≤ L) : xDv X false (d + 1) mX7_isByte [.ref 62, .int (nI k), .int 97, .int 122] (hp lk o mf wf q) [.int (if k < L ∧ ty1 (q.2.2.2.2.2.1 k) = 1 then 1 else 0)] (hp lk o mf wf q) := by
  refine (ev_X7_isByte (k := k) (lo := 97) (hi := 122) hL hL2 hk).eq ?_ rfl
  simp only [ty1_1]
theorem ev_isB2 {k : Nat} (hL : q.2.2.2.2.2.2.1 = nI L) (hL2 : L ≤ 120) (hk : k ≤ L) : xDv X false (d + 1) mX7_isByte [.ref 62, .int (nI k), .int 48, .int 57] (hp lk o mf wf q) [.int (if k < L ∧ ty1 (q.2.2.2.2.2.1 k) = 2 then 1 else 0)] (hp lk o mf wf q) := by
  refine (ev_X7_isByte (k := k) (lo := 48) (hi := 57) hL hL2 hk).eq ?_ rfl
  simp only [ty1_2]
theorem ev_isB3 {k : Nat} (hL : q.2.2.2.2.2.2.1 = nI L) (hL2 : L ≤ 120) (hk : k ≤ L) : xDv X false (d + 1) mX7_isByte [.ref 62, .int (nI k), .int 59, .int 59] (hp lk o mf wf q) [.int (if k < L ∧ ty1 (q.2.2.2.2.2.1 k) = 3 then 1 else 0)] (hp lk o mf wf q) := by
  refine (ev_X7_isByte (k := k) (lo := 59) (hi := 59) hL hL2 hk).eq ?_ rfl
  simp only [ty1_3]
theorem ev_isB4 {k : Nat} (hL : q.2.2.2.2.2.2.1 = nI L) (hL2 : L ≤ 120) (hk : k ≤ L) : xDv X false (d + 1) mX7_isByte [.ref 62, .int (nI k), .int 32, .int 32] (hp lk o mf wf q) [.int (if k < L ∧ ty1 (q.2.2.2.2.2.1 k) = 4 then 1 else 0)] (hp lk o mf wf q) := by
  refine (ev_X7_isByte (k := k) (lo := 32) (hi := 32) hL hL2 hk).eq ?_ rfl
  simp only [ty1_4]
set_option maxRecDepth 100000 in
theorem lp_X7_isName {q1 : xQ} {w s e : Nat} (hw : w < 16) (hL2 : L ≤ 120) (he : e ≤ L) (hse : s ≤ e) (hb : q1.2.2.2.2.2.2.2.2.1 = nI s) (h7 : e - s ≤ 7) : ∀ (k tq : Nat), tq + k = e - s → xGo X false (d + 0) 0 0 mX7_isName 34 [some (.ref 62), some (.int (nI w)), some (.int (nI (e - s))), some (.int 1), some (.int (nI tq))] [] (hp lk o mf wf q1) (fun v h' => v = [.int (al (nmP q1.2.2.2.2.2.1 s w) k tq)] ∧ h' = hp lk o mf wf q1) := by
  intro k
  induction k with
  | zero =>
    intro tq ht
    have etq : tq = e - s := by omega
    subst etq
    refine xg_iload (pc := 34) dX7_isName_34 rfl ?_
    refine xg_iload_n (pc := 36) dX7_isName_36 rfl ?_
    refine xg_icmp_ge (pc := 37) (tgt := 82) dX7_isName_37 (by decide) (fun c_37 => ?_) (fun c_37 => absurd c_37 (fun q => q (nI_le (by omega) (by omega))))
    refine xg_iload_n (pc := 82) dX7_isName_82 rfl ?_
    exact xg_zret (pc := 83) (ty := .boolean) dX7_isName_83 rfl rfl (⟨rfl, rfl⟩)
  | succ k ih =>
    intro tq ht
    refine xg_iload (pc := 34) dX7_isName_34 rfl ?_
    refine xg_iload_n (pc := 36) dX7_isName_36 rfl ?_
    refine xg_icmp_ge (pc := 37) (tgt := 82) dX7_isName_37 (by decide) (fun c_37 => absurd c_37 (nI_ge (by omega) (by omega))) (fun c_37 => ?_)
    refine xg_iload_n (pc := 40) dX7_isName_40 rfl ?_
    refine xg_if_eq (pc := 41) (tgt := 82) dX7_isName_41 (by decide) (fun c_41 => absurd c_41 (by decide)) (fun c_41 => ?_)
    refine xg_gsN (pc := 44) dX7_isName_44 slX7_173 ?_
    refine xg_bipush (v := 7) (pc := 47) dX7_isName_47 (by decide) ?_
    refine xg_iload_n (pc := 49) dX7_isName_49 rfl ?_
    refine xg_imul (pc := 50) dX7_isName_50 ?_
    refine xg_iload (pc := 51) dX7_isName_51 rfl ?_
    refine xg_iadd (pc := 53) dX7_isName_53 ?_
    refine xg_niald (pc := 54) (7 * w + tq) dX7_isName_54 (by simp only [xlit, nI_add, pk_mul]) (by omega) ?_
    refine xg_aload_n (pc := 55) dX7_isName_55 rfl ?_
    refine xg_get (pc := 56) dX7_isName_56 flX7_29 hp_62 rfl ?_
    refine xg_aload_n (pc := 59) dX7_isName_59 rfl ?_
    refine xg_get (pc := 60) dX7_isName_60 flX7_176 hp_62 rfl ?_
    refine xg_eq hb ?_
    refine xg_iload (pc := 63) dX7_isName_63 rfl ?_
    refine xg_iadd (pc := 65) dX7_isName_65 ?_
    refine xg_iald (pc := 66) (s + tq) dX7_isName_66 hp_69 (by simp only [xlit, nI_add, pk_mul]) (by omega) (by decide) ?_
    refine xg_icmp_ne (pc := 67) (tgt := 74) dX7_isName_67 (by decide) (fun c_67 => ?_) (fun c_67 => ?_)
    ·
      refine xg_iconst (v := 0) (pc := 74) dX7_isName_74 (by decide) ?_
      refine xg_istore_n (pc := 75) (ls' := [some (.ref 62), some (.int (nI w)), some (.int (nI (e - s))), some (.int 0), some (.int (nI tq))]) dX7_isName_75 (by decide) rfl ?_
      refine xg_iinc (pc := 76) (y := nI (tq + 1)) (ls' := [some (.ref 62), some (.int (nI w)), some (.int (nI (e - s))), some (.int 0), some (.int (nI (tq + 1)))]) dX7_isName_76 rfl (xinc _) (by decide) rfl ?_
      refine xg_goto (pc := 79) (tgt := 34) dX7_isName_79 (by decide) ?_
      refine xg_iload (pc := 34) dX7_isName_34 rfl ?_
      refine xg_iload_n (pc := 36) dX7_isName_36 rfl ?_
      refine xg_icmp_ge (pc := 37) (tgt := 82) dX7_isName_37 (by decide) (fun c_37 => ?_) (fun c_37 => ?_)
      ·
        refine xg_iload_n (pc := 82) dX7_isName_82 rfl ?_
        exact xg_zret (pc := 83) (ty := .boolean) dX7_isName_83 rfl rfl (⟨by rw [show al (nmP q1.2.2.2.2.2.1 s w) (k + 1) tq = 0 from if_neg c_67], rfl⟩)
      ·
        refine xg_iload_n (pc := 40) dX7_isName_40 rfl ?_
        refine xg_if_eq (pc := 41) (tgt := 82) dX7_isName_41 (by decide) (fun c_41 => ?_) (fun c_41 => absurd c_41 (by decide))
        refine xg_iload_n (pc := 82) dX7_isName_82 rfl ?_
        exact xg_zret (pc := 83) (ty := .boolean) dX7_isName_83 rfl rfl (⟨by rw [show al (nmP q1.2.2.2.2.2.1 s w) (k + 1) tq = 0 from if_neg c_67], rfl⟩)
    ·
      refine xg_iconst (v := 1) (pc := 70) dX7_isName_70 (by decide) ?_
      refine xg_goto (pc := 71) (tgt := 75) dX7_isName_71 (by decide) ?_
      refine xg_istore_n (pc := 75) (ls' := [some (.ref 62), some (.int (nI w)), some (.int (nI (e - s))), some (.int 1), some (.int (nI tq))]) dX7_isName_75 (by decide) rfl ?_
      refine xg_iinc (pc := 76) (y := nI (tq + 1)) (ls' := [some (.ref 62), some (.int (nI w)), some (.int (nI (e - s))), some (.int 1), some (.int (nI (tq + 1)))]) dX7_isName_76 rfl (xinc _) (by decide) rfl ?_
      refine xg_goto (pc := 79) (tgt := 34) dX7_isName_79 (by decide) ?_
      rw [show al (nmP q1.2.2.2.2.2.1 s w) (k + 1) tq = al (nmP q1.2.2.2.2.2.1 s w) k (tq + 1) from if_pos c_67]
      exact ih (tq + 1) (by omega)
set_option maxRecDepth 100000 in
theorem ev_X7_isName {q1 : xQ} {w s e v : Nat} (hw : w < 16) (hL2 : L ≤ 120) (he : e ≤ L) (hse : s ≤ e) (hb : q1.2.2.2.2.2.2.2.2.1 = nI s) (hin : ∀ i, s ≤ i → i < e → ty1 (q1.2.2.2.2.2.1 i) = 1) : xDv X false (d + 0) mX7_isName [.ref 62, .int (nI w), .int (nI (e - s))] (hp lk o mf wf q1) [.int (if wrd q1.2.2.2.2.2.1 (1, s, e, v) w then 1 else 0)] (hp lk o mf wf q1) := by
  refine xDv.of (ls := [some (.ref 62), some (.int (nI w)), some (.int (nI (e - s))), none, none]) mcX7_isName.1.2.2.2.2 (Nat.le_of_ble_eq_true rfl) rfl ?_
  refine xg_iload_n (pc := 0) dX7_isName_0 rfl ?_
  refine xg_bipush (v := 7) (pc := 1) dX7_isName_1 (by decide) ?_
  refine xg_icmp_gt (pc := 3) (tgt := 29) dX7_isName_3 (by decide) (fun c_3 => ?_) (fun c_3 => ?_)
  ·
    refine xg_iconst (v := 0) (pc := 29) dX7_isName_29 (by decide) ?_
    refine xg_istore_n (pc := 30) (ls' := [some (.ref 62), some (.int (nI w)), some (.int (nI (e - s))), some (.int 0), none]) dX7_isName_30 (by decide) rfl ?_
    refine xg_iconst (v := 0) (pc := 31) dX7_isName_31 (by decide) ?_
    refine xg_istore (pc := 32) (ls' := [some (.ref 62), some (.int (nI w)), some (.int (nI (e - s))), some (.int 0), some (.int 0)]) dX7_isName_32 (by decide) rfl ?_
    refine xg_iload (pc := 34) dX7_isName_34 rfl ?_
    refine xg_iload_n (pc := 36) dX7_isName_36 rfl ?_
    refine xg_icmp_ge (pc := 37) (tgt := 82) dX7_isName_37 (by decide) (fun c_37 => ?_) (fun c_37 => ?_)
    ·
      refine xg_iload_n (pc := 82) dX7_isName_82 rfl ?_
      exact xg_zret (pc := 83) (ty := .boolean) dX7_isName_83 rfl rfl (⟨by rw [if_neg (fun y => (fun z : e - s ≤ 7 ∧ (e - s = 7 ∨ xnm.getD (7 * w + (e - s)) 0 = 0) ∧ al (nmP q1.2.2.2.2.2.1 s w) (e - s) 0 = 1 => by have y : 7 < e - s := (nI_ltI (a := 7) (by omega) (by omega)).mp c_3; have := z.1; omega) ((nm_iff hw hin).mpr y))], rfl⟩)
    ·
      refine xg_iload_n (pc := 40) dX7_isName_40 rfl ?_
      refine xg_if_eq (pc := 41) (tgt := 82) dX7_isName_41 (by decide) (fun c_41 => ?_) (fun c_41 => absurd c_41 (by decide))
      refine xg_iload_n (pc := 82) dX7_isName_82 rfl ?_
      exact xg_zret (pc := 83) (ty := .boolean) dX7_isName_83 rfl rfl (⟨by rw [if_neg (fun y => (fun z : e - s ≤ 7 ∧ (e - s = 7 ∨ xnm.getD (7 * w + (e - s)) 0 = 0) ∧ al (nmP q1.2.2.2.2.2.1 s w) (e - s) 0 = 1 => by have y : 7 < e - s := (nI_ltI (a := 7) (by omega) (by omega)).mp c_3; have := z.1; omega) ((nm_iff hw hin).mpr y))], rfl⟩)
  ·
    refine xg_iload_n (pc := 6) dX7_isName_6 rfl ?_
    refine xg_bipush (v := 7) (pc := 7) dX7_isName_7 (by decide) ?_
    refine xg_icmp_eq (pc := 9) (tgt := 25) dX7_isName_9 (by decide) (fun c_9 => ?_) (fun c_9 => ?_)
    ·
      refine xg_iconst (v := 1) (pc := 25) dX7_isName_25 (by decide) ?_
      refine xg_goto (pc := 26) (tgt := 30) dX7_isName_26 (by decide) ?_
      refine xg_istore_n (pc := 30) (ls' := [some (.ref 62), some (.int (nI w)), some (.int (nI (e - s))), some (.int 1), none]) dX7_isName_30 (by decide) rfl ?_
      refine xg_iconst (v := 0) (pc := 31) dX7_isName_31 (by decide) ?_
      refine xg_istore (pc := 32) (ls' := [some (.ref 62), some (.int (nI w)), some (.int (nI (e - s))), some (.int 1), some (.int 0)]) dX7_isName_32 (by decide) rfl ?_
      have h7 : e - s ≤ 7 := Nat.le_of_not_lt (fun z => c_3 (nI_lt (a := 7) z (by omega)))
      refine xg_mono (fun v_ h' y => ?_) (lp_X7_isName hw hL2 he hse hb h7 (e - s) 0 (by omega))
      rw [y.1, y.2]
      refine ⟨?_, rfl⟩
      rcases al01 (P := (nmP q1.2.2.2.2.2.1 s w)) (e - s) 0 with z | z
      · rw [if_neg (fun y2 => by have := ((nm_iff hw hin).mpr y2).2.2; rw [z] at this; exact absurd this (by decide)), z]
      · rw [if_pos ((nm_iff hw hin).mp ⟨h7, Or.inl ((nI_eq (b := 7) (by omega) (by omega)).mp c_9), z⟩), z]
    ·
      have h76 : e - s ≤ 6 := by have y : ¬ 7 < e - s := fun z => c_3 (nI_lt (a := 7) z (by omega)); have y2 : ¬ e - s = 7 := fun z => c_9 (by rw [z]; rfl); omega
      refine xg_gsN (pc := 12) dX7_isName_12 slX7_173 ?_
      refine xg_bipush (v := 7) (pc := 15) dX7_isName_15 (by decide) ?_
      refine xg_iload_n (pc := 17) dX7_isName_17 rfl ?_
      refine xg_imul (pc := 18) dX7_isName_18 ?_
      refine xg_iload_n (pc := 19) dX7_isName_19 rfl ?_
      refine xg_iadd (pc := 20) dX7_isName_20 ?_
      refine xg_niald (pc := 21) (7 * w + (e - s)) dX7_isName_21 (by simp only [xlit, nI_add, pk_mul]) (by omega) ?_
      refine xg_if_ne (pc := 22) (tgt := 29) dX7_isName_22 (by decide) (fun c_22 => ?_) (fun c_22 => ?_)
      ·
        refine xg_iconst (v := 0) (pc := 29) dX7_isName_29 (by decide) ?_
        refine xg_istore_n (pc := 30) (ls' := [some (.ref 62), some (.int (nI w)), some (.int (nI (e - s))), some (.int 0), none]) dX7_isName_30 (by decide) rfl ?_
        refine xg_iconst (v := 0) (pc := 31) dX7_isName_31 (by decide) ?_
        refine xg_istore (pc := 32) (ls' := [some (.ref 62), some (.int (nI w)), some (.int (nI (e - s))), some (.int 0), some (.int 0)]) dX7_isName_32 (by decide) rfl ?_
        refine xg_iload (pc := 34) dX7_isName_34 rfl ?_
        refine xg_iload_n (pc := 36) dX7_isName_36 rfl ?_
        refine xg_icmp_ge (pc := 37) (tgt := 82) dX7_isName_37 (by decide) (fun c_37 => ?_) (fun c_37 => ?_)
        ·
          refine xg_iload_n (pc := 82) dX7_isName_82 rfl ?_
          exact xg_zret (pc := 83) (ty := .boolean) dX7_isName_83 rfl rfl (⟨by rw [if_neg (fun y => (fun z : e - s ≤ 7 ∧ (e - s = 7 ∨ xnm.getD (7 * w + (e - s)) 0 = 0) ∧ al (nmP q1.2.2.2.2.2.1 s w) (e - s) 0 = 1 => z.2.1.elim (fun y => c_9 (by rw [y]; rfl)) c_22) ((nm_iff hw hin).mpr y))], rfl⟩)
        ·
          refine xg_iload_n (pc := 40) dX7_isName_40 rfl ?_
          refine xg_if_eq (pc := 41) (tgt := 82) dX7_isName_41 (by decide) (fun c_41 => ?_) (fun c_41 => absurd c_41 (by decide))
          refine xg_iload_n (pc := 82) dX7_isName_82 rfl ?_
          exact xg_zret (pc := 83) (ty := .boolean) dX7_isName_83 rfl rfl (⟨by rw [if_neg (fun y => (fun z : e - s ≤ 7 ∧ (e - s = 7 ∨ xnm.getD (7 * w + (e - s)) 0 = 0) ∧ al (nmP q1.2.2.2.2.2.1 s w) (e - s) 0 = 1 => z.2.1.elim (fun y => c_9 (by rw [y]; rfl)) c_22) ((nm_iff hw hin).mpr y))], rfl⟩)
      ·
        refine xg_iconst (v := 1) (pc := 25) dX7_isName_25 (by decide) ?_
        refine xg_goto (pc := 26) (tgt := 30) dX7_isName_26 (by decide) ?_
        refine xg_istore_n (pc := 30) (ls' := [some (.ref 62), some (.int (nI w)), some (.int (nI (e - s))), some (.int 1), none]) dX7_isName_30 (by decide) rfl ?_
        refine xg_iconst (v := 0) (pc := 31) dX7_isName_31 (by decide) ?_
        refine xg_istore (pc := 32) (ls' := [some (.ref 62), some (.int (nI w)), some (.int (nI (e - s))), some (.int 1), some (.int 0)]) dX7_isName_32 (by decide) rfl ?_
        have h7 : e - s ≤ 7 := Nat.le_of_not_lt (fun z => c_3 (nI_lt (a := 7) z (by omega)))
        refine xg_mono (fun v_ h' y => ?_) (lp_X7_isName hw hL2 he hse hb h7 (e - s) 0 (by omega))
        rw [y.1, y.2]
        refine ⟨?_, rfl⟩
        rcases al01 (P := (nmP q1.2.2.2.2.2.1 s w)) (e - s) 0 with z | z
        · rw [if_neg (fun y2 => by have := ((nm_iff hw hin).mpr y2).2.2; rw [z] at this; exact absurd this (by decide)), z]
        · rw [if_pos ((nm_iff hw hin).mp ⟨h7, Or.inr c_22, z⟩), z]
set_option maxRecDepth 100000 in
theorem lp_X7_wordHere {q1 : xQ} {s e v : Nat} (hL2 : L ≤ 120) (he : e ≤ L) (hse : s ≤ e) (hb : q1.2.2.2.2.2.2.2.2.1 = nI s) (hpt : q1.2.2.2.2.2.2.2.2.2.1 = nI e) (hin : ∀ i, s ≤ i → i < e → ty1 (q1.2.2.2.2.2.1 i) = 1) : ∀ (k tq : Nat), tq + k = 16 → xGo X false (d + 1) 0 0 mX7_wordHere 2 [some (.ref 62), some (.int (nI tq))] [] (hp lk o mf wf q1) (fun v_ h' => v_ = [.int (nI ((srch (wrd q1.2.2.2.2.2.1 (1, s, e, v)) k tq).getD 23))] ∧ h' = hp lk o mf wf q1) := by
  intro k
  induction k with
  | zero =>
    intro tq ht
    have etq : tq = 16 := by omega
    subst etq
    refine xg_iload_n (pc := 2) dX7_wordHere_2 rfl ?_
    refine xg_bipush (v := 16) (pc := 3) dX7_wordHere_3 (by decide) ?_
    refine xg_icmp_ge (pc := 5) (tgt := 31) dX7_wordHere_5 (by decide) (fun c_5 => ?_) (fun c_5 => absurd c_5 (by decide))
    refine xg_iload_n (pc := 31) dX7_wordHere_31 rfl ?_
    refine xg_bipush (v := 16) (pc := 32) dX7_wordHere_32 (by decide) ?_
    refine xg_icmp_ge (pc := 34) (tgt := 41) dX7_wordHere_34 (by decide) (fun c_34 => ?_) (fun c_34 => absurd c_34 (by decide))
    refine xg_bipush (v := 23) (pc := 41) dX7_wordHere_41 (by decide) ?_
    exact xg_iret (pc := 43) dX7_wordHere_43 rfl (⟨rfl, rfl⟩)
  | succ k ih =>
    intro tq ht
    refine xg_iload_n (pc := 2) dX7_wordHere_2 rfl ?_
    refine xg_bipush (v := 16) (pc := 3) dX7_wordHere_3 (by decide) ?_
    refine xg_icmp_ge (pc := 5) (tgt := 31) dX7_wordHere_5 (by decide) (fun c_5 => absurd c_5 (nI_ge (b := 16) (by omega) (by omega))) (fun c_5 => ?_)
    refine xg_aload_n (pc := 8) dX7_wordHere_8 rfl ?_
    refine xg_iload_n (pc := 9) dX7_wordHere_9 rfl ?_
    refine xg_aload_n (pc := 10) dX7_wordHere_10 rfl ?_
    refine xg_get (pc := 11) dX7_wordHere_11 flX7_179 hp_62 rfl ?_
    refine xg_eq hpt ?_
    refine xg_aload_n (pc := 14) dX7_wordHere_14 rfl ?_
    refine xg_get (pc := 15) dX7_wordHere_15 flX7_176 hp_62 rfl ?_
    refine xg_eq hb ?_
    refine xg_isub (pc := 18) dX7_wordHere_18 ?_
    refine xg_eq (pk_sub hse) ?_
    refine xg_cvI (pc := 19) (h1 := hp lk o mf wf q1) (x := if wrd q1.2.2.2.2.2.1 (1, s, e, v) tq then 1 else 0) (M' := mX7_isName) dX7_wordHere_19 lkX7_182 mcX7_isName hp_62 rfl (ev_X7_isName (w := tq) (v := v) (by omega) hL2 he hse hb hin) rfl rfl (Nat.le_of_ble_eq_true rfl) ?_
    refine xg_bnz (pc := 22) (tgt := 31) dX7_wordHere_22 (by decide) (fun c_22 => ?_) (fun c_22 => ?_)
    ·
      refine xg_iload_n (pc := 31) dX7_wordHere_31 rfl ?_
      refine xg_bipush (v := 16) (pc := 32) dX7_wordHere_32 (by decide) ?_
      refine xg_icmp_ge (pc := 34) (tgt := 41) dX7_wordHere_34 (by decide) (fun c_34 => absurd c_34 (nI_ge (b := 16) (by omega) (by omega))) (fun c_34 => ?_)
      refine xg_iload_n (pc := 37) dX7_wordHere_37 rfl ?_
      refine xg_goto (pc := 38) (tgt := 43) dX7_wordHere_38 (by decide) ?_
      exact xg_iret (pc := 43) dX7_wordHere_43 rfl (⟨by rw [srch, if_pos c_22]; rfl, rfl⟩)
    ·
      refine xg_iinc (pc := 25) (y := nI (tq + 1)) (ls' := [some (.ref 62), some (.int (nI (tq + 1)))]) dX7_wordHere_25 rfl (xinc _) (by decide) rfl ?_
      refine xg_goto (pc := 28) (tgt := 2) dX7_wordHere_28 (by decide) ?_
      rw [show srch (wrd q1.2.2.2.2.2.1 (1, s, e, v)) (k + 1) tq = srch (wrd q1.2.2.2.2.2.1 (1, s, e, v)) k (tq + 1) from if_neg c_22]
      exact ih (tq + 1) (by omega)
set_option maxRecDepth 100000 in
theorem ev_X7_wordHere {q1 : xQ} {s e v : Nat} (hL2 : L ≤ 120) (he : e ≤ L) (hse : s ≤ e) (hb : q1.2.2.2.2.2.2.2.2.1 = nI s) (hpt : q1.2.2.2.2.2.2.2.2.2.1 = nI e) (hin : ∀ i, s ≤ i → i < e → ty1 (q1.2.2.2.2.2.1 i) = 1) : xDv X false (d + 1) mX7_wordHere [.ref 62] (hp lk o mf wf q1) [.int (nI (wdI q1.2.2.2.2.2.1 (1, s, e, v)))] (hp lk o mf wf q1) := by
  refine xDv.of (ls := [some (.ref 62), none]) mcX7_wordHere.1.2.2.2.2 (Nat.le_of_ble_eq_true rfl) rfl ?_
  refine xg_iconst (v := 0) (pc := 0) dX7_wordHere_0 (by decide) ?_
  refine xg_istore_n (pc := 1) (ls' := [some (.ref 62), some (.int 0)]) dX7_wordHere_1 (by decide) rfl ?_
  exact lp_X7_wordHere hL2 he hse hb hpt hin 16 0 rfl
set_option maxRecDepth 100000 in
theorem lp_rdW {q1 : xQ} {s : Nat} (hL2 : L ≤ 120) (hl : q1.2.2.2.2.2.2.1 = nI L) : ∀ (k tq : Nat), tq + k = L → (∀ i, s ≤ i → i < tq → ty1 (q1.2.2.2.2.2.1 i) = 1) → s ≤ tq → xGo X false (d + 2) 0 0 mX7_reads 76 [some (.ref 62)] [] (hp lk o mf wf (q1.1, q1.2.1, q1.2.2.1, q1.2.2.2.1, q1.2.2.2.2.1, q1.2.2.2.2.2.1, q1.2.2.2.2.2.2.1, q1.2.2.2.2.2.2.2.1, nI s, nI tq, 0, q1.2.2.2.2.2.2.2.2.2.2.2.1, q1.2.2.2.2.2.2.2.2.2.2.2.2.1, q1.2.2.2.2.2.2.2.2.2.2.2.2.2.1, q1.2.2.2.2.2.2.2.2.2.2.2.2.2.2)) (fun v_ h' => v_ = [] ∧ h' = hp lk o mf wf (qK q1 (1, s, scn q1.2.2.2.2.2.1 1 k tq, 0))) := by
  intro k
  induction k with
  | zero =>
    intro tq ht hin hst
    have etq : L = tq := by omega
    subst etq
    refine xg_aload_n (pc := 76) dX7_reads_76 rfl ?_
    refine xg_aload_n (pc := 77) dX7_reads_77 rfl ?_
    refine xg_get (pc := 78) dX7_reads_78 flX7_179 hp_62 rfl ?_
    refine xg_eq (show _ = nI L from rfl) ?_
    refine xg_bipush (v := 97) (pc := 81) dX7_reads_81 (by decide) ?_
    refine xg_bipush (v := 122) (pc := 83) dX7_reads_83 (by decide) ?_
    refine xg_cvI (pc := 85) (h1 := hp lk o mf wf (q1.1, q1.2.1, q1.2.2.1, q1.2.2.2.1, q1.2.2.2.2.1, q1.2.2.2.2.2.1, q1.2.2.2.2.2.2.1, q1.2.2.2.2.2.2.2.1, nI s, nI L, 0, q1.2.2.2.2.2.2.2.2.2.2.2.1, q1.2.2.2.2.2.2.2.2.2.2.2.2.1, q1.2.2.2.2.2.2.2.2.2.2.2.2.2.1, q1.2.2.2.2.2.2.2.2.2.2.2.2.2.2)) (x := if L < L ∧ ty1 (q1.2.2.2.2.2.1 L) = 1 then 1 else 0) (M' := mX7_isByte) dX7_reads_85 lkX7_185 mcX7_isByte hp_62 rfl (ev_isB1 hl hL2 (by omega)) rfl rfl (Nat.le_of_ble_eq_true rfl) ?_
    refine xg_bz (pc := 88) (tgt := 104) dX7_reads_88 (by decide) (fun c_88 => ?_) (fun c_88 => absurd c_88 (fun z => absurd z.1 (Nat.lt_irrefl _)))
    refine xg_aload_n (pc := 104) dX7_reads_104 rfl ?_
    refine xg_aload_n (pc := 105) dX7_reads_105 rfl ?_
    refine xg_cvI (pc := 106) (h1 := hp lk o mf wf (q1.1, q1.2.1, q1.2.2.1, q1.2.2.2.1, q1.2.2.2.2.1, q1.2.2.2.2.2.1, q1.2.2.2.2.2.2.1, q1.2.2.2.2.2.2.2.1, nI s, nI L, 0, q1.2.2.2.2.2.2.2.2.2.2.2.1, q1.2.2.2.2.2.2.2.2.2.2.2.2.1, q1.2.2.2.2.2.2.2.2.2.2.2.2.2.1, q1.2.2.2.2.2.2.2.2.2.2.2.2.2.2)) (x := nI (wdI q1.2.2.2.2.2.1 (1, s, L, 0))) (M' := mX7_wordHere) dX7_reads_106 lkX7_195 mcX7_wordHere hp_62 rfl (ev_X7_wordHere (q1 := (q1.1, q1.2.1, q1.2.2.1, q1.2.2.2.1, q1.2.2.2.2.1, q1.2.2.2.2.2.1, q1.2.2.2.2.2.2.1, q1.2.2.2.2.2.2.2.1, nI s, nI L, 0, q1.2.2.2.2.2.2.2.2.2.2.2.1, q1.2.2.2.2.2.2.2.2.2.2.2.2.1, q1.2.2.2.2.2.2.2.2.2.2.2.2.2.1, q1.2.2.2.2.2.2.2.2.2.2.2.2.2.2)) (v := 0) hL2 (by omega) (by omega) rfl rfl hin) rfl rfl (Nat.le_of_ble_eq_true rfl) ?_
    refine xg_puti (pc := 109) (h' := hp lk o mf wf (q1.1, q1.2.1, q1.2.2.1, q1.2.2.2.1, q1.2.2.2.2.1, q1.2.2.2.2.2.1, q1.2.2.2.2.2.2.1, nI (wdI q1.2.2.2.2.2.1 (1, s, L, 0)), nI s, nI L, 0, q1.2.2.2.2.2.2.2.2.2.2.2.1, q1.2.2.2.2.2.2.2.2.2.2.2.2.1, q1.2.2.2.2.2.2.2.2.2.2.2.2.2.1, q1.2.2.2.2.2.2.2.2.2.2.2.2.2.2)) dX7_reads_109 flX7_192 hp_62 (Nat.le_of_ble_eq_true rfl) hs_tk ?_
    refine xg_goto (pc := 112) (tgt := 244) dX7_reads_112 (by decide) ?_
    exact xg_ret (pc := 244) dX7_reads_244 rfl (⟨rfl, rfl⟩)
  | succ k ih =>
    intro tq ht hin hst
    refine xg_aload_n (pc := 76) dX7_reads_76 rfl ?_
    refine xg_aload_n (pc := 77) dX7_reads_77 rfl ?_
    refine xg_get (pc := 78) dX7_reads_78 flX7_179 hp_62 rfl ?_
    refine xg_eq (show _ = nI tq from rfl) ?_
    refine xg_bipush (v := 97) (pc := 81) dX7_reads_81 (by decide) ?_
    refine xg_bipush (v := 122) (pc := 83) dX7_reads_83 (by decide) ?_
    refine xg_cvI (pc := 85) (h1 := hp lk o mf wf (q1.1, q1.2.1, q1.2.2.1, q1.2.2.2.1, q1.2.2.2.2.1, q1.2.2.2.2.2.1, q1.2.2.2.2.2.2.1, q1.2.2.2.2.2.2.2.1, nI s, nI tq, 0, q1.2.2.2.2.2.2.2.2.2.2.2.1, q1.2.2.2.2.2.2.2.2.2.2.2.2.1, q1.2.2.2.2.2.2.2.2.2.2.2.2.2.1, q1.2.2.2.2.2.2.2.2.2.2.2.2.2.2)) (x := if tq < L ∧ ty1 (q1.2.2.2.2.2.1 tq) = 1 then 1 else 0) (M' := mX7_isByte) dX7_reads_85 lkX7_185 mcX7_isByte hp_62 rfl (ev_isB1 hl hL2 (by omega)) rfl rfl (Nat.le_of_ble_eq_true rfl) ?_
    refine xg_bz (pc := 88) (tgt := 104) dX7_reads_88 (by decide) (fun c_88 => ?_) (fun c_88 => ?_)
    ·
      refine xg_aload_n (pc := 104) dX7_reads_104 rfl ?_
      refine xg_aload_n (pc := 105) dX7_reads_105 rfl ?_
      refine xg_cvI (pc := 106) (h1 := hp lk o mf wf (q1.1, q1.2.1, q1.2.2.1, q1.2.2.2.1, q1.2.2.2.2.1, q1.2.2.2.2.2.1, q1.2.2.2.2.2.2.1, q1.2.2.2.2.2.2.2.1, nI s, nI tq, 0, q1.2.2.2.2.2.2.2.2.2.2.2.1, q1.2.2.2.2.2.2.2.2.2.2.2.2.1, q1.2.2.2.2.2.2.2.2.2.2.2.2.2.1, q1.2.2.2.2.2.2.2.2.2.2.2.2.2.2)) (x := nI (wdI q1.2.2.2.2.2.1 (1, s, tq, 0))) (M' := mX7_wordHere) dX7_reads_106 lkX7_195 mcX7_wordHere hp_62 rfl (ev_X7_wordHere (q1 := (q1.1, q1.2.1, q1.2.2.1, q1.2.2.2.1, q1.2.2.2.2.1, q1.2.2.2.2.2.1, q1.2.2.2.2.2.2.1, q1.2.2.2.2.2.2.2.1, nI s, nI tq, 0, q1.2.2.2.2.2.2.2.2.2.2.2.1, q1.2.2.2.2.2.2.2.2.2.2.2.2.1, q1.2.2.2.2.2.2.2.2.2.2.2.2.2.1, q1.2.2.2.2.2.2.2.2.2.2.2.2.2.2)) (v := 0) hL2 (by omega) (by omega) rfl rfl hin) rfl rfl (Nat.le_of_ble_eq_true rfl) ?_
      refine xg_puti (pc := 109) (h' := hp lk o mf wf (q1.1, q1.2.1, q1.2.2.1, q1.2.2.2.1, q1.2.2.2.2.1, q1.2.2.2.2.2.1, q1.2.2.2.2.2.2.1, nI (wdI q1.2.2.2.2.2.1 (1, s, tq, 0)), nI s, nI tq, 0, q1.2.2.2.2.2.2.2.2.2.2.2.1, q1.2.2.2.2.2.2.2.2.2.2.2.2.1, q1.2.2.2.2.2.2.2.2.2.2.2.2.2.1, q1.2.2.2.2.2.2.2.2.2.2.2.2.2.2)) dX7_reads_109 flX7_192 hp_62 (Nat.le_of_ble_eq_true rfl) hs_tk ?_
      refine xg_goto (pc := 112) (tgt := 244) dX7_reads_112 (by decide) ?_
      exact xg_ret (pc := 244) dX7_reads_244 rfl (⟨rfl, by rw [show scn q1.2.2.2.2.2.1 1 (k + 1) tq = tq from if_neg (fun z => c_88 ⟨by omega, z⟩)]; rfl⟩)
    ·
      refine xg_aload_n (pc := 91) dX7_reads_91 rfl ?_
      refine xg_dup (pc := 92) dX7_reads_92 rfl ?_
      refine xg_get (pc := 93) dX7_reads_93 flX7_179 hp_62 rfl ?_
      refine xg_eq (show _ = nI tq from rfl) ?_
      refine xg_iconst (v := 1) (pc := 96) dX7_reads_96 (by decide) ?_
      refine xg_iadd (pc := 97) dX7_reads_97 ?_
      refine xg_eq (nI_1 _) ?_
      refine xg_puti (pc := 98) (h' := hp lk o mf wf (q1.1, q1.2.1, q1.2.2.1, q1.2.2.2.1, q1.2.2.2.2.1, q1.2.2.2.2.2.1, q1.2.2.2.2.2.2.1, q1.2.2.2.2.2.2.2.1, nI s, nI (tq + 1), 0, q1.2.2.2.2.2.2.2.2.2.2.2.1, q1.2.2.2.2.2.2.2.2.2.2.2.2.1, q1.2.2.2.2.2.2.2.2.2.2.2.2.2.1, q1.2.2.2.2.2.2.2.2.2.2.2.2.2.2)) dX7_reads_98 flX7_179 hp_62 (Nat.le_of_ble_eq_true rfl) hs_pt ?_
      refine xg_goto (pc := 101) (tgt := 76) dX7_reads_101 (by decide) ?_
      rw [show scn q1.2.2.2.2.2.1 1 (k + 1) tq = scn q1.2.2.2.2.2.1 1 k (tq + 1) from if_pos c_88.2]
      refine ih (tq + 1) (by omega) (fun i i1 i2 => ?_) (by omega)
      by_cases z : i = tq
      · rw [z]; exact c_88.2
      · exact hin i i1 (by omega)
set_option maxRecDepth 100000 in
theorem lp_rdN {q1 : xQ} {s : Nat} (hL2 : L ≤ 120) (hl : q1.2.2.2.2.2.2.1 = nI L) : ∀ (k tq : Nat), tq + k = L → ∀ (v : Nat), v ≤ 9999 → xGo X false (d + 2) 0 0 mX7_reads 130 [some (.ref 62)] [] (hp lk o mf wf (q1.1, q1.2.1, q1.2.2.1, q1.2.2.2.1, q1.2.2.2.2.1, q1.2.2.2.2.2.1, q1.2.2.2.2.2.2.1, q1.2.2.2.2.2.2.2.1, nI s, nI tq, nI v, q1.2.2.2.2.2.2.2.2.2.2.2.1, q1.2.2.2.2.2.2.2.2.2.2.2.2.1, q1.2.2.2.2.2.2.2.2.2.2.2.2.2.1, q1.2.2.2.2.2.2.2.2.2.2.2.2.2.2)) (fun v_ h' => v_ = [] ∧ h' = hp lk o mf wf (qK q1 (2, s, scn q1.2.2.2.2.2.1 2 k tq, vl q1.2.2.2.2.2.1 k tq v))) := by
  intro k
  induction k with
  | zero =>
    intro tq ht v hv
    have etq : L = tq := by omega
    subst etq
    refine xg_aload_n (pc := 130) dX7_reads_130 rfl ?_
    refine xg_aload_n (pc := 131) dX7_reads_131 rfl ?_
    refine xg_get (pc := 132) dX7_reads_132 flX7_179 hp_62 rfl ?_
    refine xg_eq (show _ = nI L from rfl) ?_
    refine xg_bipush (v := 48) (pc := 135) dX7_reads_135 (by decide) ?_
    refine xg_bipush (v := 57) (pc := 137) dX7_reads_137 (by decide) ?_
    refine xg_cvI (pc := 139) (h1 := hp lk o mf wf (q1.1, q1.2.1, q1.2.2.1, q1.2.2.2.1, q1.2.2.2.2.1, q1.2.2.2.2.2.1, q1.2.2.2.2.2.2.1, q1.2.2.2.2.2.2.2.1, nI s, nI L, nI v, q1.2.2.2.2.2.2.2.2.2.2.2.1, q1.2.2.2.2.2.2.2.2.2.2.2.2.1, q1.2.2.2.2.2.2.2.2.2.2.2.2.2.1, q1.2.2.2.2.2.2.2.2.2.2.2.2.2.2)) (x := if L < L ∧ ty1 (q1.2.2.2.2.2.1 L) = 2 then 1 else 0) (M' := mX7_isByte) dX7_reads_139 lkX7_185 mcX7_isByte hp_62 rfl (ev_isB2 hl hL2 (by omega)) rfl rfl (Nat.le_of_ble_eq_true rfl) ?_
    refine xg_bz (pc := 142) (tgt := 199) dX7_reads_142 (by decide) (fun c_142 => ?_) (fun c_142 => absurd c_142 (fun z => absurd z.1 (Nat.lt_irrefl _)))
    refine xg_aload_n (pc := 199) dX7_reads_199 rfl ?_
    refine xg_bipush (v := 20) (pc := 200) dX7_reads_200 (by decide) ?_
    refine xg_puti (pc := 202) (h' := hp lk o mf wf (q1.1, q1.2.1, q1.2.2.1, q1.2.2.2.1, q1.2.2.2.2.1, q1.2.2.2.2.2.1, q1.2.2.2.2.2.2.1, 20, nI s, nI L, nI v, q1.2.2.2.2.2.2.2.2.2.2.2.1, q1.2.2.2.2.2.2.2.2.2.2.2.2.1, q1.2.2.2.2.2.2.2.2.2.2.2.2.2.1, q1.2.2.2.2.2.2.2.2.2.2.2.2.2.2)) dX7_reads_202 flX7_192 hp_62 (Nat.le_of_ble_eq_true rfl) hs_tk ?_
    refine xg_goto (pc := 205) (tgt := 244) dX7_reads_205 (by decide) ?_
    exact xg_ret (pc := 244) dX7_reads_244 rfl (⟨rfl, rfl⟩)
  | succ k ih =>
    intro tq ht v hv
    refine xg_aload_n (pc := 130) dX7_reads_130 rfl ?_
    refine xg_aload_n (pc := 131) dX7_reads_131 rfl ?_
    refine xg_get (pc := 132) dX7_reads_132 flX7_179 hp_62 rfl ?_
    refine xg_eq (show _ = nI tq from rfl) ?_
    refine xg_bipush (v := 48) (pc := 135) dX7_reads_135 (by decide) ?_
    refine xg_bipush (v := 57) (pc := 137) dX7_reads_137 (by decide) ?_
    refine xg_cvI (pc := 139) (h1 := hp lk o mf wf (q1.1, q1.2.1, q1.2.2.1, q1.2.2.2.1, q1.2.2.2.2.1, q1.2.2.2.2.2.1, q1.2.2.2.2.2.2.1, q1.2.2.2.2.2.2.2.1, nI s, nI tq, nI v, q1.2.2.2.2.2.2.2.2.2.2.2.1, q1.2.2.2.2.2.2.2.2.2.2.2.2.1, q1.2.2.2.2.2.2.2.2.2.2.2.2.2.1, q1.2.2.2.2.2.2.2.2.2.2.2.2.2.2)) (x := if tq < L ∧ ty1 (q1.2.2.2.2.2.1 tq) = 2 then 1 else 0) (M' := mX7_isByte) dX7_reads_139 lkX7_185 mcX7_isByte hp_62 rfl (ev_isB2 hl hL2 (by omega)) rfl rfl (Nat.le_of_ble_eq_true rfl) ?_
    refine xg_bz (pc := 142) (tgt := 199) dX7_reads_142 (by decide) (fun c_142 => ?_) (fun c_142 => ?_)
    ·
      refine xg_aload_n (pc := 199) dX7_reads_199 rfl ?_
      refine xg_bipush (v := 20) (pc := 200) dX7_reads_200 (by decide) ?_
      refine xg_puti (pc := 202) (h' := hp lk o mf wf (q1.1, q1.2.1, q1.2.2.1, q1.2.2.2.1, q1.2.2.2.2.1, q1.2.2.2.2.2.1, q1.2.2.2.2.2.2.1, 20, nI s, nI tq, nI v, q1.2.2.2.2.2.2.2.2.2.2.2.1, q1.2.2.2.2.2.2.2.2.2.2.2.2.1, q1.2.2.2.2.2.2.2.2.2.2.2.2.2.1, q1.2.2.2.2.2.2.2.2.2.2.2.2.2.2)) dX7_reads_202 flX7_192 hp_62 (Nat.le_of_ble_eq_true rfl) hs_tk ?_
      refine xg_goto (pc := 205) (tgt := 244) dX7_reads_205 (by decide) ?_
      exact xg_ret (pc := 244) dX7_reads_244 rfl (⟨rfl, by rw [show scn q1.2.2.2.2.2.1 2 (k + 1) tq = tq from if_neg (fun z => c_142 ⟨by omega, z⟩), show vl q1.2.2.2.2.2.1 (k + 1) tq v = v from if_neg (fun z => c_142 ⟨by omega, z⟩)]; rfl⟩)
    ·
      refine xg_aload_n (pc := 145) dX7_reads_145 rfl ?_
      refine xg_aload_n (pc := 146) dX7_reads_146 rfl ?_
      refine xg_get (pc := 147) dX7_reads_147 flX7_189 hp_62 rfl ?_
      refine xg_eq (show _ = nI v from rfl) ?_
      refine xg_sipush (v := 999) (pc := 150) dX7_reads_150 (by decide) ?_
      refine xg_icmp_le (pc := 153) (tgt := 163) dX7_reads_153 (by decide) (fun c_153 => ?_) (fun c_153 => ?_)
      ·
        refine xg_bipush (v := 10) (pc := 163) dX7_reads_163 (by decide) ?_
        refine xg_aload_n (pc := 165) dX7_reads_165 rfl ?_
        refine xg_get (pc := 166) dX7_reads_166 flX7_189 hp_62 rfl ?_
        refine xg_eq (show _ = nI v from rfl) ?_
        refine xg_imul (pc := 169) dX7_reads_169 ?_
        refine xg_eq (pk_mul 10 _) ?_
        refine xg_aload_n (pc := 170) dX7_reads_170 rfl ?_
        refine xg_get (pc := 171) dX7_reads_171 flX7_29 hp_62 rfl ?_
        refine xg_aload_n (pc := 174) dX7_reads_174 rfl ?_
        refine xg_get (pc := 175) dX7_reads_175 flX7_179 hp_62 rfl ?_
        refine xg_eq (show _ = nI tq from rfl) ?_
        refine xg_iald (pc := 178) tq dX7_reads_178 hp_69 rfl (by omega) (by decide) ?_
        refine xg_iadd (pc := 179) dX7_reads_179 ?_
        refine xg_bipush (v := 48) (pc := 180) dX7_reads_180 (by decide) ?_
        refine xg_isub (pc := 182) dX7_reads_182 ?_
        refine xg_eq (by rw [add_sub_a, (dg_le c_142.2).1, nI_add]) ?_
        refine xg_puti (pc := 183) (h' := hp lk o mf wf (q1.1, q1.2.1, q1.2.2.1, q1.2.2.2.1, q1.2.2.2.2.1, q1.2.2.2.2.2.1, q1.2.2.2.2.2.2.1, q1.2.2.2.2.2.2.2.1, nI s, nI tq, nI (10 * v + dg (q1.2.2.2.2.2.1 tq)), q1.2.2.2.2.2.2.2.2.2.2.2.1, q1.2.2.2.2.2.2.2.2.2.2.2.2.1, q1.2.2.2.2.2.2.2.2.2.2.2.2.2.1, q1.2.2.2.2.2.2.2.2.2.2.2.2.2.2)) dX7_reads_183 flX7_189 hp_62 (Nat.le_of_ble_eq_true rfl) hs_va ?_
        refine xg_aload_n (pc := 186) dX7_reads_186 rfl ?_
        refine xg_dup (pc := 187) dX7_reads_187 rfl ?_
        refine xg_get (pc := 188) dX7_reads_188 flX7_179 hp_62 rfl ?_
        refine xg_eq (show _ = nI tq from rfl) ?_
        refine xg_iconst (v := 1) (pc := 191) dX7_reads_191 (by decide) ?_
        refine xg_iadd (pc := 192) dX7_reads_192 ?_
        refine xg_eq (nI_1 _) ?_
        refine xg_puti (pc := 193) (h' := hp lk o mf wf (q1.1, q1.2.1, q1.2.2.1, q1.2.2.2.1, q1.2.2.2.2.1, q1.2.2.2.2.2.1, q1.2.2.2.2.2.2.1, q1.2.2.2.2.2.2.2.1, nI s, nI (tq + 1), nI (10 * v + dg (q1.2.2.2.2.2.1 tq)), q1.2.2.2.2.2.2.2.2.2.2.2.1, q1.2.2.2.2.2.2.2.2.2.2.2.2.1, q1.2.2.2.2.2.2.2.2.2.2.2.2.2.1, q1.2.2.2.2.2.2.2.2.2.2.2.2.2.2)) dX7_reads_193 flX7_179 hp_62 (Nat.le_of_ble_eq_true rfl) hs_pt ?_
        refine xg_goto (pc := 196) (tgt := 130) dX7_reads_196 (by decide) ?_
        have d9 := (dg_le c_142.2).2
        have ev : (if 999 < v then v else 10 * v + dg (q1.2.2.2.2.2.1 tq)) = 10 * v + dg (q1.2.2.2.2.2.1 tq) := if_neg (by have y := (nI_leI (b := 999) (by omega) (by omega)).mp c_153; omega)
        rw [show scn q1.2.2.2.2.2.1 2 (k + 1) tq = scn q1.2.2.2.2.2.1 2 k (tq + 1) from if_pos c_142.2, show vl q1.2.2.2.2.2.1 (k + 1) tq v = vl q1.2.2.2.2.2.1 k (tq + 1) (if 999 < v then v else 10 * v + dg (q1.2.2.2.2.2.1 tq)) from if_pos c_142.2, ev]
        exact ih (tq + 1) (by omega) _ (by have y := (nI_leI (b := 999) (by omega) (by omega)).mp c_153; omega)
      ·
        refine xg_aload_n (pc := 156) dX7_reads_156 rfl ?_
        refine xg_get (pc := 157) dX7_reads_157 flX7_189 hp_62 rfl ?_
        refine xg_eq (show _ = nI v from rfl) ?_
        refine xg_goto (pc := 160) (tgt := 183) dX7_reads_160 (by decide) ?_
        refine xg_puti (pc := 183) (h' := hp lk o mf wf (q1.1, q1.2.1, q1.2.2.1, q1.2.2.2.1, q1.2.2.2.2.1, q1.2.2.2.2.2.1, q1.2.2.2.2.2.2.1, q1.2.2.2.2.2.2.2.1, nI s, nI tq, nI v, q1.2.2.2.2.2.2.2.2.2.2.2.1, q1.2.2.2.2.2.2.2.2.2.2.2.2.1, q1.2.2.2.2.2.2.2.2.2.2.2.2.2.1, q1.2.2.2.2.2.2.2.2.2.2.2.2.2.2)) dX7_reads_183 flX7_189 hp_62 (Nat.le_of_ble_eq_true rfl) hs_va ?_
        refine xg_aload_n (pc := 186) dX7_reads_186 rfl ?_
        refine xg_dup (pc := 187) dX7_reads_187 rfl ?_
        refine xg_get (pc := 188) dX7_reads_188 flX7_179 hp_62 rfl ?_
        refine xg_eq (show _ = nI tq from rfl) ?_
        refine xg_iconst (v := 1) (pc := 191) dX7_reads_191 (by decide) ?_
        refine xg_iadd (pc := 192) dX7_reads_192 ?_
        refine xg_eq (nI_1 _) ?_
        refine xg_puti (pc := 193) (h' := hp lk o mf wf (q1.1, q1.2.1, q1.2.2.1, q1.2.2.2.1, q1.2.2.2.2.1, q1.2.2.2.2.2.1, q1.2.2.2.2.2.2.1, q1.2.2.2.2.2.2.2.1, nI s, nI (tq + 1), nI v, q1.2.2.2.2.2.2.2.2.2.2.2.1, q1.2.2.2.2.2.2.2.2.2.2.2.2.1, q1.2.2.2.2.2.2.2.2.2.2.2.2.2.1, q1.2.2.2.2.2.2.2.2.2.2.2.2.2.2)) dX7_reads_193 flX7_179 hp_62 (Nat.le_of_ble_eq_true rfl) hs_pt ?_
        refine xg_goto (pc := 196) (tgt := 130) dX7_reads_196 (by decide) ?_
        have d9 := (dg_le c_142.2).2
        have ev : (if 999 < v then v else 10 * v + dg (q1.2.2.2.2.2.1 tq)) = v := if_pos (Nat.lt_of_not_le (fun y => c_153 (nI_le (b := 999) y (by omega))))
        rw [show scn q1.2.2.2.2.2.1 2 (k + 1) tq = scn q1.2.2.2.2.2.1 2 k (tq + 1) from if_pos c_142.2, show vl q1.2.2.2.2.2.1 (k + 1) tq v = vl q1.2.2.2.2.2.1 k (tq + 1) (if 999 < v then v else 10 * v + dg (q1.2.2.2.2.2.1 tq)) from if_pos c_142.2, ev]
        exact ih (tq + 1) (by omega) _ (by omega)
theorem z0s {b : Nat → Int32} {s : Nat} (hs : s ≤ L) (h : tyA b L s = 0) : s = L := by
  unfold tyA at h
  split at h
  · have := ty1_le (b s); omega
  · omega
theorem z1s {b : Nat → Int32} {s T : Nat} (h : tyA b L s = T) (hT : ¬ T = 0) : ¬ s = L := by
  intro z; subst z
  unfold tyA at h
  rw [if_neg (Nat.lt_irrefl _)] at h
  exact hT h.symm
theorem zts {b : Nat → Int32} {s T : Nat} (h : tyA b L s = T) (hT : ¬ T = 0) : s < L ∧ ty1 (b s) = T := by
  unfold tyA at h
  split at h
  · exact ⟨by assumption, h⟩
  · exact absurd h.symm hT
theorem ztn {b : Nat → Int32} {s T U : Nat} (h : tyA b L s = T) (hT : ¬ T = U) : ¬ (s < L ∧ ty1 (b s) = U) := by
  intro z
  unfold tyA at h
  rw [if_pos z.1, z.2] at h
  exact hT h.symm
set_option maxRecDepth 100000 in
theorem go_rdS {q1 : xQ} {s : Nat} (hL2 : L ≤ 120) (hl : q1.2.2.2.2.2.2.1 = nI L) (hs : s ≤ L) (he : q1.2.2.2.2.2.2.2.2.2.1 = nI s) (h4 : s < L → ¬ ty1 (q1.2.2.2.2.2.1 s) = 4) : xGo X false (d + 2) 0 0 mX7_reads 28 [some (.ref 62)] [] (hp lk o mf wf q1) (fun v_ h' => v_ = [] ∧ h' = hp lk o mf wf (qK q1 (tkS q1.2.2.2.2.2.1 L s))) := by
  rcases tyA_5 h4 with hty | hty | hty | hty | hty
  ·
    refine xg_aload_n (pc := 28) dX7_reads_28 rfl ?_
    refine xg_aload_n (pc := 29) dX7_reads_29 rfl ?_
    refine xg_get (pc := 30) dX7_reads_30 flX7_179 hp_62 rfl ?_
    refine xg_eq he ?_
    refine xg_puti (pc := 33) (h' := hp lk o mf wf (q1.1, q1.2.1, q1.2.2.1, q1.2.2.2.1, q1.2.2.2.2.1, q1.2.2.2.2.2.1, q1.2.2.2.2.2.2.1, q1.2.2.2.2.2.2.2.1, nI s, q1.2.2.2.2.2.2.2.2.2.1, q1.2.2.2.2.2.2.2.2.2.2.1, q1.2.2.2.2.2.2.2.2.2.2.2.1, q1.2.2.2.2.2.2.2.2.2.2.2.2.1, q1.2.2.2.2.2.2.2.2.2.2.2.2.2.1, q1.2.2.2.2.2.2.2.2.2.2.2.2.2.2)) dX7_reads_33 flX7_176 hp_62 (Nat.le_of_ble_eq_true rfl) hs_bg ?_
    refine xg_aload_n (pc := 36) dX7_reads_36 rfl ?_
    refine xg_iconst (v := 0) (pc := 37) dX7_reads_37 (by decide) ?_
    refine xg_puti (pc := 38) (h' := hp lk o mf wf (q1.1, q1.2.1, q1.2.2.1, q1.2.2.2.1, q1.2.2.2.2.1, q1.2.2.2.2.2.1, q1.2.2.2.2.2.2.1, q1.2.2.2.2.2.2.2.1, nI s, q1.2.2.2.2.2.2.2.2.2.1, 0, q1.2.2.2.2.2.2.2.2.2.2.2.1, q1.2.2.2.2.2.2.2.2.2.2.2.2.1, q1.2.2.2.2.2.2.2.2.2.2.2.2.2.1, q1.2.2.2.2.2.2.2.2.2.2.2.2.2.2)) dX7_reads_38 flX7_189 hp_62 (Nat.le_of_ble_eq_true rfl) hs_va ?_
    refine xg_aload_n (pc := 41) dX7_reads_41 rfl ?_
    refine xg_get (pc := 42) dX7_reads_42 flX7_179 hp_62 rfl ?_
    refine xg_eq he ?_
    refine xg_aload_n (pc := 45) dX7_reads_45 rfl ?_
    refine xg_get (pc := 46) dX7_reads_46 flX7_169 hp_62 rfl ?_
    refine xg_eq hl ?_
    refine xg_icmp_ne (pc := 49) (tgt := 61) dX7_reads_49 (by decide) (fun c_49 => absurd c_49 (fun z => z (by rw [z0s hs hty]))) (fun c_49 => ?_)
    refine xg_aload_n (pc := 52) dX7_reads_52 rfl ?_
    refine xg_bipush (v := 22) (pc := 53) dX7_reads_53 (by decide) ?_
    refine xg_puti (pc := 55) (h' := hp lk o mf wf (q1.1, q1.2.1, q1.2.2.1, q1.2.2.2.1, q1.2.2.2.2.1, q1.2.2.2.2.2.1, q1.2.2.2.2.2.2.1, 22, nI s, q1.2.2.2.2.2.2.2.2.2.1, 0, q1.2.2.2.2.2.2.2.2.2.2.2.1, q1.2.2.2.2.2.2.2.2.2.2.2.2.1, q1.2.2.2.2.2.2.2.2.2.2.2.2.2.1, q1.2.2.2.2.2.2.2.2.2.2.2.2.2.2)) dX7_reads_55 flX7_192 hp_62 (Nat.le_of_ble_eq_true rfl) hs_tk ?_
    refine xg_goto (pc := 58) (tgt := 244) dX7_reads_58 (by decide) ?_
    exact xg_ret (pc := 244) dX7_reads_244 rfl (⟨rfl, by unfold qK tkS; rw [hty]; (try rw [he]); rfl⟩)
  ·
    refine xg_aload_n (pc := 28) dX7_reads_28 rfl ?_
    refine xg_aload_n (pc := 29) dX7_reads_29 rfl ?_
    refine xg_get (pc := 30) dX7_reads_30 flX7_179 hp_62 rfl ?_
    refine xg_eq he ?_
    refine xg_puti (pc := 33) (h' := hp lk o mf wf (q1.1, q1.2.1, q1.2.2.1, q1.2.2.2.1, q1.2.2.2.2.1, q1.2.2.2.2.2.1, q1.2.2.2.2.2.2.1, q1.2.2.2.2.2.2.2.1, nI s, q1.2.2.2.2.2.2.2.2.2.1, q1.2.2.2.2.2.2.2.2.2.2.1, q1.2.2.2.2.2.2.2.2.2.2.2.1, q1.2.2.2.2.2.2.2.2.2.2.2.2.1, q1.2.2.2.2.2.2.2.2.2.2.2.2.2.1, q1.2.2.2.2.2.2.2.2.2.2.2.2.2.2)) dX7_reads_33 flX7_176 hp_62 (Nat.le_of_ble_eq_true rfl) hs_bg ?_
    refine xg_aload_n (pc := 36) dX7_reads_36 rfl ?_
    refine xg_iconst (v := 0) (pc := 37) dX7_reads_37 (by decide) ?_
    refine xg_puti (pc := 38) (h' := hp lk o mf wf (q1.1, q1.2.1, q1.2.2.1, q1.2.2.2.1, q1.2.2.2.2.1, q1.2.2.2.2.2.1, q1.2.2.2.2.2.2.1, q1.2.2.2.2.2.2.2.1, nI s, q1.2.2.2.2.2.2.2.2.2.1, 0, q1.2.2.2.2.2.2.2.2.2.2.2.1, q1.2.2.2.2.2.2.2.2.2.2.2.2.1, q1.2.2.2.2.2.2.2.2.2.2.2.2.2.1, q1.2.2.2.2.2.2.2.2.2.2.2.2.2.2)) dX7_reads_38 flX7_189 hp_62 (Nat.le_of_ble_eq_true rfl) hs_va ?_
    refine xg_aload_n (pc := 41) dX7_reads_41 rfl ?_
    refine xg_get (pc := 42) dX7_reads_42 flX7_179 hp_62 rfl ?_
    refine xg_eq he ?_
    refine xg_aload_n (pc := 45) dX7_reads_45 rfl ?_
    refine xg_get (pc := 46) dX7_reads_46 flX7_169 hp_62 rfl ?_
    refine xg_eq hl ?_
    refine xg_icmp_ne (pc := 49) (tgt := 61) dX7_reads_49 (by decide) (fun c_49 => ?_) (fun c_49 => absurd c_49 (fun z => z1s hty (by decide) ((nI_eq (by omega) (by omega)).mp z)))
    refine xg_aload_n (pc := 61) dX7_reads_61 rfl ?_
    refine xg_aload_n (pc := 62) dX7_reads_62 rfl ?_
    refine xg_get (pc := 63) dX7_reads_63 flX7_179 hp_62 rfl ?_
    refine xg_eq he ?_
    refine xg_bipush (v := 97) (pc := 66) dX7_reads_66 (by decide) ?_
    refine xg_bipush (v := 122) (pc := 68) dX7_reads_68 (by decide) ?_
    refine xg_cvI (pc := 70) (h1 := hp lk o mf wf (q1.1, q1.2.1, q1.2.2.1, q1.2.2.2.1, q1.2.2.2.2.1, q1.2.2.2.2.2.1, q1.2.2.2.2.2.2.1, q1.2.2.2.2.2.2.2.1, nI s, q1.2.2.2.2.2.2.2.2.2.1, 0, q1.2.2.2.2.2.2.2.2.2.2.2.1, q1.2.2.2.2.2.2.2.2.2.2.2.2.1, q1.2.2.2.2.2.2.2.2.2.2.2.2.2.1, q1.2.2.2.2.2.2.2.2.2.2.2.2.2.2)) (x := if s < L ∧ ty1 (q1.2.2.2.2.2.1 s) = 1 then 1 else 0) (M' := mX7_isByte) dX7_reads_70 lkX7_185 mcX7_isByte hp_62 rfl (ev_isB1 hl hL2 (by omega)) rfl rfl (Nat.le_of_ble_eq_true rfl) ?_
    refine xg_bz (pc := 73) (tgt := 115) dX7_reads_73 (by decide) (fun c_73 => absurd c_73 (fun z => z (zts hty (by decide)))) (fun c_73 => ?_)
    rw [he]
    refine xg_mono (fun v h' y => ?_) (lp_rdW (s := s) hL2 hl (L - s) s (by omega) (fun i i1 i2 => by omega) (Nat.le_refl _))
    rw [y.1, y.2]
    exact ⟨rfl, by unfold tkS; rw [hty]; rfl⟩
  ·
    refine xg_aload_n (pc := 28) dX7_reads_28 rfl ?_
    refine xg_aload_n (pc := 29) dX7_reads_29 rfl ?_
    refine xg_get (pc := 30) dX7_reads_30 flX7_179 hp_62 rfl ?_
    refine xg_eq he ?_
    refine xg_puti (pc := 33) (h' := hp lk o mf wf (q1.1, q1.2.1, q1.2.2.1, q1.2.2.2.1, q1.2.2.2.2.1, q1.2.2.2.2.2.1, q1.2.2.2.2.2.2.1, q1.2.2.2.2.2.2.2.1, nI s, q1.2.2.2.2.2.2.2.2.2.1, q1.2.2.2.2.2.2.2.2.2.2.1, q1.2.2.2.2.2.2.2.2.2.2.2.1, q1.2.2.2.2.2.2.2.2.2.2.2.2.1, q1.2.2.2.2.2.2.2.2.2.2.2.2.2.1, q1.2.2.2.2.2.2.2.2.2.2.2.2.2.2)) dX7_reads_33 flX7_176 hp_62 (Nat.le_of_ble_eq_true rfl) hs_bg ?_
    refine xg_aload_n (pc := 36) dX7_reads_36 rfl ?_
    refine xg_iconst (v := 0) (pc := 37) dX7_reads_37 (by decide) ?_
    refine xg_puti (pc := 38) (h' := hp lk o mf wf (q1.1, q1.2.1, q1.2.2.1, q1.2.2.2.1, q1.2.2.2.2.1, q1.2.2.2.2.2.1, q1.2.2.2.2.2.2.1, q1.2.2.2.2.2.2.2.1, nI s, q1.2.2.2.2.2.2.2.2.2.1, 0, q1.2.2.2.2.2.2.2.2.2.2.2.1, q1.2.2.2.2.2.2.2.2.2.2.2.2.1, q1.2.2.2.2.2.2.2.2.2.2.2.2.2.1, q1.2.2.2.2.2.2.2.2.2.2.2.2.2.2)) dX7_reads_38 flX7_189 hp_62 (Nat.le_of_ble_eq_true rfl) hs_va ?_
    refine xg_aload_n (pc := 41) dX7_reads_41 rfl ?_
    refine xg_get (pc := 42) dX7_reads_42 flX7_179 hp_62 rfl ?_
    refine xg_eq he ?_
    refine xg_aload_n (pc := 45) dX7_reads_45 rfl ?_
    refine xg_get (pc := 46) dX7_reads_46 flX7_169 hp_62 rfl ?_
    refine xg_eq hl ?_
    refine xg_icmp_ne (pc := 49) (tgt := 61) dX7_reads_49 (by decide) (fun c_49 => ?_) (fun c_49 => absurd c_49 (fun z => z1s hty (by decide) ((nI_eq (by omega) (by omega)).mp z)))
    refine xg_aload_n (pc := 61) dX7_reads_61 rfl ?_
    refine xg_aload_n (pc := 62) dX7_reads_62 rfl ?_
    refine xg_get (pc := 63) dX7_reads_63 flX7_179 hp_62 rfl ?_
    refine xg_eq he ?_
    refine xg_bipush (v := 97) (pc := 66) dX7_reads_66 (by decide) ?_
    refine xg_bipush (v := 122) (pc := 68) dX7_reads_68 (by decide) ?_
    refine xg_cvI (pc := 70) (h1 := hp lk o mf wf (q1.1, q1.2.1, q1.2.2.1, q1.2.2.2.1, q1.2.2.2.2.1, q1.2.2.2.2.2.1, q1.2.2.2.2.2.2.1, q1.2.2.2.2.2.2.2.1, nI s, q1.2.2.2.2.2.2.2.2.2.1, 0, q1.2.2.2.2.2.2.2.2.2.2.2.1, q1.2.2.2.2.2.2.2.2.2.2.2.2.1, q1.2.2.2.2.2.2.2.2.2.2.2.2.2.1, q1.2.2.2.2.2.2.2.2.2.2.2.2.2.2)) (x := if s < L ∧ ty1 (q1.2.2.2.2.2.1 s) = 1 then 1 else 0) (M' := mX7_isByte) dX7_reads_70 lkX7_185 mcX7_isByte hp_62 rfl (ev_isB1 hl hL2 (by omega)) rfl rfl (Nat.le_of_ble_eq_true rfl) ?_
    refine xg_bz (pc := 73) (tgt := 115) dX7_reads_73 (by decide) (fun c_73 => ?_) (fun c_73 => absurd c_73 (fun z => ztn hty (by decide) z))
    refine xg_aload_n (pc := 115) dX7_reads_115 rfl ?_
    refine xg_aload_n (pc := 116) dX7_reads_116 rfl ?_
    refine xg_get (pc := 117) dX7_reads_117 flX7_179 hp_62 rfl ?_
    refine xg_eq he ?_
    refine xg_bipush (v := 48) (pc := 120) dX7_reads_120 (by decide) ?_
    refine xg_bipush (v := 57) (pc := 122) dX7_reads_122 (by decide) ?_
    refine xg_cvI (pc := 124) (h1 := hp lk o mf wf (q1.1, q1.2.1, q1.2.2.1, q1.2.2.2.1, q1.2.2.2.2.1, q1.2.2.2.2.2.1, q1.2.2.2.2.2.2.1, q1.2.2.2.2.2.2.2.1, nI s, q1.2.2.2.2.2.2.2.2.2.1, 0, q1.2.2.2.2.2.2.2.2.2.2.2.1, q1.2.2.2.2.2.2.2.2.2.2.2.2.1, q1.2.2.2.2.2.2.2.2.2.2.2.2.2.1, q1.2.2.2.2.2.2.2.2.2.2.2.2.2.2)) (x := if s < L ∧ ty1 (q1.2.2.2.2.2.1 s) = 2 then 1 else 0) (M' := mX7_isByte) dX7_reads_124 lkX7_185 mcX7_isByte hp_62 rfl (ev_isB2 hl hL2 (by omega)) rfl rfl (Nat.le_of_ble_eq_true rfl) ?_
    refine xg_bz (pc := 127) (tgt := 208) dX7_reads_127 (by decide) (fun c_127 => absurd c_127 (fun z => z (zts hty (by decide)))) (fun c_127 => ?_)
    rw [he]
    refine xg_mono (fun v h' y => ?_) (lp_rdN (s := s) hL2 hl (L - s) s (by omega) 0 (by omega))
    rw [y.1, y.2]
    exact ⟨rfl, by unfold tkS; rw [hty]; rfl⟩
  ·
    refine xg_aload_n (pc := 28) dX7_reads_28 rfl ?_
    refine xg_aload_n (pc := 29) dX7_reads_29 rfl ?_
    refine xg_get (pc := 30) dX7_reads_30 flX7_179 hp_62 rfl ?_
    refine xg_eq he ?_
    refine xg_puti (pc := 33) (h' := hp lk o mf wf (q1.1, q1.2.1, q1.2.2.1, q1.2.2.2.1, q1.2.2.2.2.1, q1.2.2.2.2.2.1, q1.2.2.2.2.2.2.1, q1.2.2.2.2.2.2.2.1, nI s, q1.2.2.2.2.2.2.2.2.2.1, q1.2.2.2.2.2.2.2.2.2.2.1, q1.2.2.2.2.2.2.2.2.2.2.2.1, q1.2.2.2.2.2.2.2.2.2.2.2.2.1, q1.2.2.2.2.2.2.2.2.2.2.2.2.2.1, q1.2.2.2.2.2.2.2.2.2.2.2.2.2.2)) dX7_reads_33 flX7_176 hp_62 (Nat.le_of_ble_eq_true rfl) hs_bg ?_
    refine xg_aload_n (pc := 36) dX7_reads_36 rfl ?_
    refine xg_iconst (v := 0) (pc := 37) dX7_reads_37 (by decide) ?_
    refine xg_puti (pc := 38) (h' := hp lk o mf wf (q1.1, q1.2.1, q1.2.2.1, q1.2.2.2.1, q1.2.2.2.2.1, q1.2.2.2.2.2.1, q1.2.2.2.2.2.2.1, q1.2.2.2.2.2.2.2.1, nI s, q1.2.2.2.2.2.2.2.2.2.1, 0, q1.2.2.2.2.2.2.2.2.2.2.2.1, q1.2.2.2.2.2.2.2.2.2.2.2.2.1, q1.2.2.2.2.2.2.2.2.2.2.2.2.2.1, q1.2.2.2.2.2.2.2.2.2.2.2.2.2.2)) dX7_reads_38 flX7_189 hp_62 (Nat.le_of_ble_eq_true rfl) hs_va ?_
    refine xg_aload_n (pc := 41) dX7_reads_41 rfl ?_
    refine xg_get (pc := 42) dX7_reads_42 flX7_179 hp_62 rfl ?_
    refine xg_eq he ?_
    refine xg_aload_n (pc := 45) dX7_reads_45 rfl ?_
    refine xg_get (pc := 46) dX7_reads_46 flX7_169 hp_62 rfl ?_
    refine xg_eq hl ?_
    refine xg_icmp_ne (pc := 49) (tgt := 61) dX7_reads_49 (by decide) (fun c_49 => ?_) (fun c_49 => absurd c_49 (fun z => z1s hty (by decide) ((nI_eq (by omega) (by omega)).mp z)))
    refine xg_aload_n (pc := 61) dX7_reads_61 rfl ?_
    refine xg_aload_n (pc := 62) dX7_reads_62 rfl ?_
    refine xg_get (pc := 63) dX7_reads_63 flX7_179 hp_62 rfl ?_
    refine xg_eq he ?_
    refine xg_bipush (v := 97) (pc := 66) dX7_reads_66 (by decide) ?_
    refine xg_bipush (v := 122) (pc := 68) dX7_reads_68 (by decide) ?_
    refine xg_cvI (pc := 70) (h1 := hp lk o mf wf (q1.1, q1.2.1, q1.2.2.1, q1.2.2.2.1, q1.2.2.2.2.1, q1.2.2.2.2.2.1, q1.2.2.2.2.2.2.1, q1.2.2.2.2.2.2.2.1, nI s, q1.2.2.2.2.2.2.2.2.2.1, 0, q1.2.2.2.2.2.2.2.2.2.2.2.1, q1.2.2.2.2.2.2.2.2.2.2.2.2.1, q1.2.2.2.2.2.2.2.2.2.2.2.2.2.1, q1.2.2.2.2.2.2.2.2.2.2.2.2.2.2)) (x := if s < L ∧ ty1 (q1.2.2.2.2.2.1 s) = 1 then 1 else 0) (M' := mX7_isByte) dX7_reads_70 lkX7_185 mcX7_isByte hp_62 rfl (ev_isB1 hl hL2 (by omega)) rfl rfl (Nat.le_of_ble_eq_true rfl) ?_
    refine xg_bz (pc := 73) (tgt := 115) dX7_reads_73 (by decide) (fun c_73 => ?_) (fun c_73 => absurd c_73 (fun z => ztn hty (by decide) z))
    refine xg_aload_n (pc := 115) dX7_reads_115 rfl ?_
    refine xg_aload_n (pc := 116) dX7_reads_116 rfl ?_
    refine xg_get (pc := 117) dX7_reads_117 flX7_179 hp_62 rfl ?_
    refine xg_eq he ?_
    refine xg_bipush (v := 48) (pc := 120) dX7_reads_120 (by decide) ?_
    refine xg_bipush (v := 57) (pc := 122) dX7_reads_122 (by decide) ?_
    refine xg_cvI (pc := 124) (h1 := hp lk o mf wf (q1.1, q1.2.1, q1.2.2.1, q1.2.2.2.1, q1.2.2.2.2.1, q1.2.2.2.2.2.1, q1.2.2.2.2.2.2.1, q1.2.2.2.2.2.2.2.1, nI s, q1.2.2.2.2.2.2.2.2.2.1, 0, q1.2.2.2.2.2.2.2.2.2.2.2.1, q1.2.2.2.2.2.2.2.2.2.2.2.2.1, q1.2.2.2.2.2.2.2.2.2.2.2.2.2.1, q1.2.2.2.2.2.2.2.2.2.2.2.2.2.2)) (x := if s < L ∧ ty1 (q1.2.2.2.2.2.1 s) = 2 then 1 else 0) (M' := mX7_isByte) dX7_reads_124 lkX7_185 mcX7_isByte hp_62 rfl (ev_isB2 hl hL2 (by omega)) rfl rfl (Nat.le_of_ble_eq_true rfl) ?_
    refine xg_bz (pc := 127) (tgt := 208) dX7_reads_127 (by decide) (fun c_127 => ?_) (fun c_127 => absurd c_127 (fun z => ztn hty (by decide) z))
    refine xg_aload_n (pc := 208) dX7_reads_208 rfl ?_
    refine xg_aload_n (pc := 209) dX7_reads_209 rfl ?_
    refine xg_aload_n (pc := 210) dX7_reads_210 rfl ?_
    refine xg_get (pc := 211) dX7_reads_211 flX7_179 hp_62 rfl ?_
    refine xg_eq he ?_
    refine xg_bipush (v := 59) (pc := 214) dX7_reads_214 (by decide) ?_
    refine xg_bipush (v := 59) (pc := 216) dX7_reads_216 (by decide) ?_
    refine xg_cvI (pc := 218) (h1 := hp lk o mf wf (q1.1, q1.2.1, q1.2.2.1, q1.2.2.2.1, q1.2.2.2.2.1, q1.2.2.2.2.2.1, q1.2.2.2.2.2.2.1, q1.2.2.2.2.2.2.2.1, nI s, q1.2.2.2.2.2.2.2.2.2.1, 0, q1.2.2.2.2.2.2.2.2.2.2.2.1, q1.2.2.2.2.2.2.2.2.2.2.2.2.1, q1.2.2.2.2.2.2.2.2.2.2.2.2.2.1, q1.2.2.2.2.2.2.2.2.2.2.2.2.2.2)) (x := if s < L ∧ ty1 (q1.2.2.2.2.2.1 s) = 3 then 1 else 0) (M' := mX7_isByte) dX7_reads_218 lkX7_185 mcX7_isByte hp_62 rfl (ev_isB3 hl hL2 (by omega)) rfl rfl (Nat.le_of_ble_eq_true rfl) ?_
    refine xg_bz (pc := 221) (tgt := 229) dX7_reads_221 (by decide) (fun c_221 => absurd c_221 (fun z => z (zts hty (by decide)))) (fun c_221 => ?_)
    refine xg_bipush (v := 21) (pc := 224) dX7_reads_224 (by decide) ?_
    refine xg_goto (pc := 226) (tgt := 231) dX7_reads_226 (by decide) ?_
    refine xg_puti (pc := 231) (h' := hp lk o mf wf (q1.1, q1.2.1, q1.2.2.1, q1.2.2.2.1, q1.2.2.2.2.1, q1.2.2.2.2.2.1, q1.2.2.2.2.2.2.1, 21, nI s, q1.2.2.2.2.2.2.2.2.2.1, 0, q1.2.2.2.2.2.2.2.2.2.2.2.1, q1.2.2.2.2.2.2.2.2.2.2.2.2.1, q1.2.2.2.2.2.2.2.2.2.2.2.2.2.1, q1.2.2.2.2.2.2.2.2.2.2.2.2.2.2)) dX7_reads_231 flX7_192 hp_62 (Nat.le_of_ble_eq_true rfl) hs_tk ?_
    refine xg_aload_n (pc := 234) dX7_reads_234 rfl ?_
    refine xg_dup (pc := 235) dX7_reads_235 rfl ?_
    refine xg_get (pc := 236) dX7_reads_236 flX7_179 hp_62 rfl ?_
    refine xg_eq he ?_
    refine xg_iconst (v := 1) (pc := 239) dX7_reads_239 (by decide) ?_
    refine xg_iadd (pc := 240) dX7_reads_240 ?_
    refine xg_eq (nI_1 _) ?_
    refine xg_puti (pc := 241) (h' := hp lk o mf wf (q1.1, q1.2.1, q1.2.2.1, q1.2.2.2.1, q1.2.2.2.2.1, q1.2.2.2.2.2.1, q1.2.2.2.2.2.2.1, 21, nI s, nI (s + 1), 0, q1.2.2.2.2.2.2.2.2.2.2.2.1, q1.2.2.2.2.2.2.2.2.2.2.2.2.1, q1.2.2.2.2.2.2.2.2.2.2.2.2.2.1, q1.2.2.2.2.2.2.2.2.2.2.2.2.2.2)) dX7_reads_241 flX7_179 hp_62 (Nat.le_of_ble_eq_true rfl) hs_pt ?_
    exact xg_ret (pc := 244) dX7_reads_244 rfl (⟨rfl, by unfold qK tkS; rw [hty]; (try rw [he]); rfl⟩)
  ·
    refine xg_aload_n (pc := 28) dX7_reads_28 rfl ?_
    refine xg_aload_n (pc := 29) dX7_reads_29 rfl ?_
    refine xg_get (pc := 30) dX7_reads_30 flX7_179 hp_62 rfl ?_
    refine xg_eq he ?_
    refine xg_puti (pc := 33) (h' := hp lk o mf wf (q1.1, q1.2.1, q1.2.2.1, q1.2.2.2.1, q1.2.2.2.2.1, q1.2.2.2.2.2.1, q1.2.2.2.2.2.2.1, q1.2.2.2.2.2.2.2.1, nI s, q1.2.2.2.2.2.2.2.2.2.1, q1.2.2.2.2.2.2.2.2.2.2.1, q1.2.2.2.2.2.2.2.2.2.2.2.1, q1.2.2.2.2.2.2.2.2.2.2.2.2.1, q1.2.2.2.2.2.2.2.2.2.2.2.2.2.1, q1.2.2.2.2.2.2.2.2.2.2.2.2.2.2)) dX7_reads_33 flX7_176 hp_62 (Nat.le_of_ble_eq_true rfl) hs_bg ?_
    refine xg_aload_n (pc := 36) dX7_reads_36 rfl ?_
    refine xg_iconst (v := 0) (pc := 37) dX7_reads_37 (by decide) ?_
    refine xg_puti (pc := 38) (h' := hp lk o mf wf (q1.1, q1.2.1, q1.2.2.1, q1.2.2.2.1, q1.2.2.2.2.1, q1.2.2.2.2.2.1, q1.2.2.2.2.2.2.1, q1.2.2.2.2.2.2.2.1, nI s, q1.2.2.2.2.2.2.2.2.2.1, 0, q1.2.2.2.2.2.2.2.2.2.2.2.1, q1.2.2.2.2.2.2.2.2.2.2.2.2.1, q1.2.2.2.2.2.2.2.2.2.2.2.2.2.1, q1.2.2.2.2.2.2.2.2.2.2.2.2.2.2)) dX7_reads_38 flX7_189 hp_62 (Nat.le_of_ble_eq_true rfl) hs_va ?_
    refine xg_aload_n (pc := 41) dX7_reads_41 rfl ?_
    refine xg_get (pc := 42) dX7_reads_42 flX7_179 hp_62 rfl ?_
    refine xg_eq he ?_
    refine xg_aload_n (pc := 45) dX7_reads_45 rfl ?_
    refine xg_get (pc := 46) dX7_reads_46 flX7_169 hp_62 rfl ?_
    refine xg_eq hl ?_
    refine xg_icmp_ne (pc := 49) (tgt := 61) dX7_reads_49 (by decide) (fun c_49 => ?_) (fun c_49 => absurd c_49 (fun z => z1s hty (by decide) ((nI_eq (by omega) (by omega)).mp z)))
    refine xg_aload_n (pc := 61) dX7_reads_61 rfl ?_
    refine xg_aload_n (pc := 62) dX7_reads_62 rfl ?_
    refine xg_get (pc := 63) dX7_reads_63 flX7_179 hp_62 rfl ?_
    refine xg_eq he ?_
    refine xg_bipush (v := 97) (pc := 66) dX7_reads_66 (by decide) ?_
    refine xg_bipush (v := 122) (pc := 68) dX7_reads_68 (by decide) ?_
    refine xg_cvI (pc := 70) (h1 := hp lk o mf wf (q1.1, q1.2.1, q1.2.2.1, q1.2.2.2.1, q1.2.2.2.2.1, q1.2.2.2.2.2.1, q1.2.2.2.2.2.2.1, q1.2.2.2.2.2.2.2.1, nI s, q1.2.2.2.2.2.2.2.2.2.1, 0, q1.2.2.2.2.2.2.2.2.2.2.2.1, q1.2.2.2.2.2.2.2.2.2.2.2.2.1, q1.2.2.2.2.2.2.2.2.2.2.2.2.2.1, q1.2.2.2.2.2.2.2.2.2.2.2.2.2.2)) (x := if s < L ∧ ty1 (q1.2.2.2.2.2.1 s) = 1 then 1 else 0) (M' := mX7_isByte) dX7_reads_70 lkX7_185 mcX7_isByte hp_62 rfl (ev_isB1 hl hL2 (by omega)) rfl rfl (Nat.le_of_ble_eq_true rfl) ?_
    refine xg_bz (pc := 73) (tgt := 115) dX7_reads_73 (by decide) (fun c_73 => ?_) (fun c_73 => absurd c_73 (fun z => ztn hty (by decide) z))
    refine xg_aload_n (pc := 115) dX7_reads_115 rfl ?_
    refine xg_aload_n (pc := 116) dX7_reads_116 rfl ?_
    refine xg_get (pc := 117) dX7_reads_117 flX7_179 hp_62 rfl ?_
    refine xg_eq he ?_
    refine xg_bipush (v := 48) (pc := 120) dX7_reads_120 (by decide) ?_
    refine xg_bipush (v := 57) (pc := 122) dX7_reads_122 (by decide) ?_
    refine xg_cvI (pc := 124) (h1 := hp lk o mf wf (q1.1, q1.2.1, q1.2.2.1, q1.2.2.2.1, q1.2.2.2.2.1, q1.2.2.2.2.2.1, q1.2.2.2.2.2.2.1, q1.2.2.2.2.2.2.2.1, nI s, q1.2.2.2.2.2.2.2.2.2.1, 0, q1.2.2.2.2.2.2.2.2.2.2.2.1, q1.2.2.2.2.2.2.2.2.2.2.2.2.1, q1.2.2.2.2.2.2.2.2.2.2.2.2.2.1, q1.2.2.2.2.2.2.2.2.2.2.2.2.2.2)) (x := if s < L ∧ ty1 (q1.2.2.2.2.2.1 s) = 2 then 1 else 0) (M' := mX7_isByte) dX7_reads_124 lkX7_185 mcX7_isByte hp_62 rfl (ev_isB2 hl hL2 (by omega)) rfl rfl (Nat.le_of_ble_eq_true rfl) ?_
    refine xg_bz (pc := 127) (tgt := 208) dX7_reads_127 (by decide) (fun c_127 => ?_) (fun c_127 => absurd c_127 (fun z => ztn hty (by decide) z))
    refine xg_aload_n (pc := 208) dX7_reads_208 rfl ?_
    refine xg_aload_n (pc := 209) dX7_reads_209 rfl ?_
    refine xg_aload_n (pc := 210) dX7_reads_210 rfl ?_
    refine xg_get (pc := 211) dX7_reads_211 flX7_179 hp_62 rfl ?_
    refine xg_eq he ?_
    refine xg_bipush (v := 59) (pc := 214) dX7_reads_214 (by decide) ?_
    refine xg_bipush (v := 59) (pc := 216) dX7_reads_216 (by decide) ?_
    refine xg_cvI (pc := 218) (h1 := hp lk o mf wf (q1.1, q1.2.1, q1.2.2.1, q1.2.2.2.1, q1.2.2.2.2.1, q1.2.2.2.2.2.1, q1.2.2.2.2.2.2.1, q1.2.2.2.2.2.2.2.1, nI s, q1.2.2.2.2.2.2.2.2.2.1, 0, q1.2.2.2.2.2.2.2.2.2.2.2.1, q1.2.2.2.2.2.2.2.2.2.2.2.2.1, q1.2.2.2.2.2.2.2.2.2.2.2.2.2.1, q1.2.2.2.2.2.2.2.2.2.2.2.2.2.2)) (x := if s < L ∧ ty1 (q1.2.2.2.2.2.1 s) = 3 then 1 else 0) (M' := mX7_isByte) dX7_reads_218 lkX7_185 mcX7_isByte hp_62 rfl (ev_isB3 hl hL2 (by omega)) rfl rfl (Nat.le_of_ble_eq_true rfl) ?_
    refine xg_bz (pc := 221) (tgt := 229) dX7_reads_221 (by decide) (fun c_221 => ?_) (fun c_221 => absurd c_221 (fun z => ztn hty (by decide) z))
    refine xg_bipush (v := 23) (pc := 229) dX7_reads_229 (by decide) ?_
    refine xg_puti (pc := 231) (h' := hp lk o mf wf (q1.1, q1.2.1, q1.2.2.1, q1.2.2.2.1, q1.2.2.2.2.1, q1.2.2.2.2.2.1, q1.2.2.2.2.2.2.1, 23, nI s, q1.2.2.2.2.2.2.2.2.2.1, 0, q1.2.2.2.2.2.2.2.2.2.2.2.1, q1.2.2.2.2.2.2.2.2.2.2.2.2.1, q1.2.2.2.2.2.2.2.2.2.2.2.2.2.1, q1.2.2.2.2.2.2.2.2.2.2.2.2.2.2)) dX7_reads_231 flX7_192 hp_62 (Nat.le_of_ble_eq_true rfl) hs_tk ?_
    refine xg_aload_n (pc := 234) dX7_reads_234 rfl ?_
    refine xg_dup (pc := 235) dX7_reads_235 rfl ?_
    refine xg_get (pc := 236) dX7_reads_236 flX7_179 hp_62 rfl ?_
    refine xg_eq he ?_
    refine xg_iconst (v := 1) (pc := 239) dX7_reads_239 (by decide) ?_
    refine xg_iadd (pc := 240) dX7_reads_240 ?_
    refine xg_eq (nI_1 _) ?_
    refine xg_puti (pc := 241) (h' := hp lk o mf wf (q1.1, q1.2.1, q1.2.2.1, q1.2.2.2.1, q1.2.2.2.2.1, q1.2.2.2.2.2.1, q1.2.2.2.2.2.2.1, 23, nI s, nI (s + 1), 0, q1.2.2.2.2.2.2.2.2.2.2.2.1, q1.2.2.2.2.2.2.2.2.2.2.2.2.1, q1.2.2.2.2.2.2.2.2.2.2.2.2.2.1, q1.2.2.2.2.2.2.2.2.2.2.2.2.2.2)) dX7_reads_241 flX7_179 hp_62 (Nat.le_of_ble_eq_true rfl) hs_pt ?_
    exact xg_ret (pc := 244) dX7_reads_244 rfl (⟨rfl, by unfold qK tkS; rw [hty]; (try rw [he]); rfl⟩)
set_option maxRecDepth 100000 in
theorem lp_rd  (hL2 : L ≤ 120) : ∀ (k tq : Nat), tq + k = L → ∀ (q1 : xQ), q1.2.2.2.2.2.2.2.2.2.1 = nI tq → q1.2.2.2.2.2.2.1 = nI L → xGo X false (d + 2) 0 0 mX7_reads 0 [some (.ref 62)] [] (hp lk o mf wf q1) (fun v_ h' => v_ = [] ∧ h' = hp lk o mf wf (qK q1 (tok q1.2.2.2.2.2.1 L tq))) := by
  intro k
  induction k with
  | zero =>
    intro tq ht q1 he hl
    have etq : L = tq := by omega
    subst etq
    refine xg_aload_n (pc := 0) dX7_reads_0 rfl ?_
    refine xg_aload_n (pc := 1) dX7_reads_1 rfl ?_
    refine xg_get (pc := 2) dX7_reads_2 flX7_179 hp_62 rfl ?_
    refine xg_eq he ?_
    refine xg_bipush (v := 32) (pc := 5) dX7_reads_5 (by decide) ?_
    refine xg_bipush (v := 32) (pc := 7) dX7_reads_7 (by decide) ?_
    refine xg_cvI (pc := 9) (h1 := hp lk o mf wf q1) (x := if L < L ∧ ty1 (q1.2.2.2.2.2.1 L) = 4 then 1 else 0) (M' := mX7_isByte) dX7_reads_9 lkX7_185 mcX7_isByte hp_62 rfl (ev_isB4 hl hL2 (by omega)) rfl rfl (Nat.le_of_ble_eq_true rfl) ?_
    refine xg_bz (pc := 12) (tgt := 28) dX7_reads_12 (by decide) (fun c_12 => ?_) (fun c_12 => absurd c_12 (fun z => absurd z.1 (Nat.lt_irrefl _)))
    rw [tok_no (fun z => absurd z (by omega))]
    exact go_rdS hL2 hl (by omega) he (fun z => absurd z (by omega))
  | succ k ih =>
    intro tq ht q1 he hl
    refine xg_aload_n (pc := 0) dX7_reads_0 rfl ?_
    refine xg_aload_n (pc := 1) dX7_reads_1 rfl ?_
    refine xg_get (pc := 2) dX7_reads_2 flX7_179 hp_62 rfl ?_
    refine xg_eq he ?_
    refine xg_bipush (v := 32) (pc := 5) dX7_reads_5 (by decide) ?_
    refine xg_bipush (v := 32) (pc := 7) dX7_reads_7 (by decide) ?_
    refine xg_cvI (pc := 9) (h1 := hp lk o mf wf q1) (x := if tq < L ∧ ty1 (q1.2.2.2.2.2.1 tq) = 4 then 1 else 0) (M' := mX7_isByte) dX7_reads_9 lkX7_185 mcX7_isByte hp_62 rfl (ev_isB4 hl hL2 (by omega)) rfl rfl (Nat.le_of_ble_eq_true rfl) ?_
    refine xg_bz (pc := 12) (tgt := 28) dX7_reads_12 (by decide) (fun c_12 => ?_) (fun c_12 => ?_)
    ·
      have htb : ¬ ty1 (q1.2.2.2.2.2.1 tq) = 4 := fun z => c_12 ⟨by omega, z⟩
      rw [tok_no (fun _ => htb)]
      exact go_rdS hL2 hl (by omega) he (fun _ => htb)
    ·
      refine xg_aload_n (pc := 15) dX7_reads_15 rfl ?_
      refine xg_dup (pc := 16) dX7_reads_16 rfl ?_
      refine xg_get (pc := 17) dX7_reads_17 flX7_179 hp_62 rfl ?_
      refine xg_eq he ?_
      refine xg_iconst (v := 1) (pc := 20) dX7_reads_20 (by decide) ?_
      refine xg_iadd (pc := 21) dX7_reads_21 ?_
      refine xg_eq (nI_1 _) ?_
      refine xg_puti (pc := 22) (h' := hp lk o mf wf (q1.1, q1.2.1, q1.2.2.1, q1.2.2.2.1, q1.2.2.2.2.1, q1.2.2.2.2.2.1, q1.2.2.2.2.2.2.1, q1.2.2.2.2.2.2.2.1, q1.2.2.2.2.2.2.2.2.1, nI (tq + 1), q1.2.2.2.2.2.2.2.2.2.2.1, q1.2.2.2.2.2.2.2.2.2.2.2.1, q1.2.2.2.2.2.2.2.2.2.2.2.2.1, q1.2.2.2.2.2.2.2.2.2.2.2.2.2.1, q1.2.2.2.2.2.2.2.2.2.2.2.2.2.2)) dX7_reads_22 flX7_179 hp_62 (Nat.le_of_ble_eq_true rfl) hs_pt ?_
      refine xg_goto (pc := 25) (tgt := 0) dX7_reads_25 (by decide) ?_
      rw [tok_sk (by omega) c_12.2]
      exact ih (tq + 1) (by omega) _ rfl hl
theorem ev_X7_reads {q1 : xQ} {a : Nat} (hL2 : L ≤ 120) (hl : q1.2.2.2.2.2.2.1 = nI L) (ha : a ≤ L) (he : q1.2.2.2.2.2.2.2.2.2.1 = nI a) : xDv X false (d + 2) mX7_reads [.ref 62] (hp lk o mf wf q1) [] (hp lk o mf wf (qK q1 (tok q1.2.2.2.2.2.1 L a))) := by
  refine xDv.of (ls := [some (.ref 62)]) mcX7_reads.1.2.2.2.2 (Nat.le_of_ble_eq_true rfl) rfl ?_
  exact lp_rd hL2 (L - a) a (by omega) q1 he hl
theorem ev_rnx {x : Int32} (hL : q.2.2.2.2.2.2.1 = nI L) (hL2 : L ≤ 120) (okt : okT q.2.2.2.2.2.1 L t) : xDv X false (d + 2) mX7_reads [.ref 62] (hp lk o mf wf (qX q t x)) [] (hp lk o mf wf (qX q (nx q.2.2.2.2.2.1 L t) x)) :=
  ev_X7_reads (q1 := qX q t x) hL2 hL okt.2.1 rfl
end
