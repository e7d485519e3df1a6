section
variable {X : xS} {o : xO} {f0 f1 f2 mf wf : Nat → Int32} {q : xQ}
theorem xEv.mono {z : Bool} {d k n : Nat} {M : xM} {av : List Value} {h : List va_E} {Q Q' : List Value → List va_E → Prop} (g : xEv X z d k n M av h Q) (hq : ∀ v h', Q v h' → Q' v h') : xEv X z d k n M av h Q' := by
  intro l E p e ha hc hk s m args below hf happ hP hK
  obtain ⟨n', oc, h1, h2, h3, ⟨⟨v, h', q1, q2, q3, q4⟩, q5⟩, hF⟩ := g l E p e ha hc hk s m args below hf happ hP hK
  exact ⟨n', oc, h1, h2, h3, ⟨⟨v, h', q1, q2, hq v h' q3, q4⟩, q5⟩, hF⟩
/-- a call of the class, then the same of the reference: one answer, and the systems agree again -/
def Two (M6 M7 : xM) (X : xS) (as : List Value) (K : Value → Prop) (o : xO) (f0 f1 f2 mf wf : Nat → Int32) (q : xQ) : Prop :=
  xEv X false 12 0 0 M6 (.ref 0 :: as) (hp (tri f0 f1 f2) o mf wf q) (fun v h' => ∃ (x : Value) (o' : xO) (g0 g1 g2 : Nat → Int32), K x ∧ v = [x] ∧ h' = hp (tri g0 g1 g2) o' mf wf q ∧ xEv X false 12 0 0 M7 (.ref 62 :: as) (hp (tri g0 g1 g2) o' mf wf q) (fun v' h'' => v' = [x] ∧ ∃ mf' wf' q', IV o' g0 g2 q' mf' ∧ h'' = hp (tri g0 g1 g2) o' mf' wf' q'))
abbrev isI (x : Value) : Prop := ∃ y : Int32, x = .int y
abbrev isJ (x : Value) : Prop := ∃ y : Int64, x = .long y
theorem Two.cp {M6 M7 : xM} {as : List Value} {K : Value → Prop} {c : SC} {r : SR} (hc : xEv X false 12 0 0 M6 (.ref 0 :: as) (hp (tri f0 f1 f2) o mf wf q) (CP mf wf q c)) (hr : ∀ lk o', xEv X false 12 0 0 M7 (.ref 62 :: as) (hp lk o' mf wf q) (RP lk o' r)) (s : Sim c r) (hk : K c.1) : Two M6 M7 X as K o f0 f1 f2 mf wf q := by
  refine hc.mono (fun v h' hq => ?_)
  obtain ⟨e1, g1, e2⟩ := hq
  refine ⟨c.1, c.2.1, c.2.2.1, g1, c.2.2.2, hk, e1, e2, (hr _ _).mono (fun v' h'' hq => ?_)⟩
  obtain ⟨e3, mf', wf', e4, e5⟩ := hq
  exact ⟨by rw [e3, s.1], mf', wf', _, s.2 _ e4, e5⟩
theorem Two.sp {M6 M7 : xM} {as : List Value} {a b : SP} (I : IV o f0 f2 q mf) (hc : xEv X false 12 0 0 M6 (.ref 0 :: as) (hp (tri f0 f1 f2) o mf wf q) (CQ f2 o mf wf q a)) (hr : ∀ lk o', xEv X false 12 0 0 M7 (.ref 62 :: as) (hp lk o' mf wf q) (RQ lk o' q b)) (s : spE a b) : Two M6 M7 X as isI o f0 f1 f2 mf wf q :=
  Two.cp (c := (.int a.1, fnO o a.2.1, a.2.2, f2)) (r := (.int b.1, fnQ q b.2.1, b.2.2)) hc hr (I.sp s) ⟨_, rfl⟩
theorem IV.qz (I : IV o f0 f2 q mf) : okS (qZ q) := by
  obtain ⟨-, -, -, -, -, -, -, -, z1, z2, -⟩ := I
  intro s hs
  rw [← (z2 s hs).2]; exact z1 s hs
theorem IV.g (I : IV o f0 f2 q mf) : okP mf := I.2.1.okP I.1
theorem IV.re (I : IV o f0 f2 q mf) : ∀ t, t < nT mf → rng6 (rR mf t) := fun t ht => by rw [rR_C I.g ht]; exact re_n I.g t ht
theorem IV.w {co ed : Nat → Int32} (I : IV o f0 f2 q mf) : IV o f0 f2 (qW q co ed) mf := I
theorem two_wind {w v : Int32} (I : IV o f0 f2 q mf) : Two mX6_wind mX7_wind X [.int w, .int v] isI o f0 f1 f2 mf wf q :=
  Two.sp I (ev_X6_wind (d := 10) ) (fun _ _ => ev_X7_wind (d := 10) ) (E_wind I.1 I.2.1)
theorem two_cell {c w : Int32} (I : IV o f0 f2 q mf) : Two mX6_cell mX7_cell X [.int c, .int w] isI o f0 f1 f2 mf wf q :=
  Two.sp I (ev_X6_cell (d := 8) I.1.1.1) (fun _ _ => ev_X7_cell (d := 8) I.g.1.1) (E_cell I.1 I.2.1)
theorem two_thing {k c h : Int32} (I : IV o f0 f2 q mf) : Two mX6_thing mX7_thing X [.int k, .int c, .int h] isI o f0 f1 f2 mf wf q :=
  Two.sp I (ev_X6_thing (d := 10) I.1.1.1) (fun _ _ => ev_X7_thing (d := 10) I.g.1.1) (E_thing I.1 I.2.1)
theorem two_of {t w : Int32} (I : IV o f0 f2 q mf) : Two mX6_of mX7_of X [.int t, .int w] isI o f0 f1 f2 mf wf q :=
  Two.sp I (ev_X6_of (d := 9) I.1.1.1 (re_n I.1)) (fun _ _ => ev_X7_of (d := 9) I.g.1.1 I.re) (E_of I.1 I.2.1)
theorem two_set {t w v : Int32} (I : IV o f0 f2 q mf) : Two mX6_set mX7_set X [.int t, .int w, .int v] isI o f0 f1 f2 mf wf q :=
  Two.sp I (ev_X6_set (d := 10) I.1.1.1) (fun _ _ => ev_X7_set (d := 10) I.g.1.1) (E_set I.1 I.2.1)
theorem two_turn {t k : Int32} (I : IV o f0 f2 q mf) : Two mX6_turn mX7_turn X [.int t, .int k] isI o f0 f1 f2 mf wf q :=
  Two.sp I (ev_X6_turn (d := 10) I.1.1.1) (fun _ _ => ev_X7_turn (d := 10) I.g.1.1) (E_turn I.1 I.2.1)
theorem two_as {t k : Int32} (I : IV o f0 f2 q mf) : Two mX6_as mX7_as X [.int t, .int k] isI o f0 f1 f2 mf wf q :=
  Two.sp I (ev_X6_as (d := 10) I.1.1.1 (fun t ht => (I.1.2.1 t ht).1)) (fun _ _ => ev_X7_as (d := 10) I.g.1.1) (E_as I.1 I.2.1)
theorem two_boat {c : Int32} (I : IV o f0 f2 q mf) : Two mX6_boat mX7_boat X [.int c] isI o f0 f1 f2 mf wf q :=
  Two.sp I (ev_X6_boat (d := 10) I.1.1.1) (fun _ _ => ev_X7_boat (d := 10) I.g.1.1) (E_boat I.1 I.2.1)
theorem two_told {b w : Int32} (I : IV o f0 f2 q mf) : Two mX6_told mX7_told X [.int b, .int w] isI o f0 f1 f2 mf wf q :=
  Two.sp I (ev_X6_told (d := 8) I.1.1) (fun _ _ => ev_X7_told (d := 7) I.g.1) (E_told I.1 I.2.1)
theorem two_fit {b w v : Int32} (I : IV o f0 f2 q mf) : Two mX6_fit mX7_fit X [.int b, .int w, .int v] isI o f0 f1 f2 mf wf q :=
  Two.sp I (ev_X6_fit (d := 10) I.1.1.1) (fun _ _ => ev_X7_fit (d := 10) I.g.1.1) (E_fit I.1 I.2.1)
theorem two_hours {n : Int32} (I : IV o f0 f2 q mf) : Two mX6_hours mX7_hours X [.int n] isI o f0 f1 f2 mf wf q :=
  Two.sp I (ev_X6_hours (d := 5) I.1.1) (fun _ _ => ev_X7_hours (d := 4) I.g.1) (E_hours I.1 I.2.1)
theorem two_now {w : Int32} (I : IV o f0 f2 q mf) : Two mX6_now mX7_now X [.int w] isI o f0 f1 f2 mf wf q :=
  Two.sp I (ev_X6_now (d := 7) I.1.1.1) (fun _ _ => ev_X7_now (d := 8) I.g.1.1) (E_now I.1 I.2.1)
theorem two_on {b n w : Int32} (I : IV o f0 f2 q mf) : Two mX6_on mX7_on X [.int b, .int n, .int w] isI o f0 f1 f2 mf wf q :=
  Two.sp I (ev_X6_on (d := 5) I.1) (fun _ _ => ev_X7_on (d := 4) I.g) (E_on I.1 I.2.1)
theorem two_light {t n : Int32} (I : IV o f0 f2 q mf) : Two mX6_light mX7_light X [.int t, .int n] isI o f0 f1 f2 mf wf q :=
  Two.sp I (ev_X6_light (d := 5) I.1) (fun _ _ => ev_X7_light (d := 4) I.g) (E_light I.1 I.2.1)
theorem two_full {b v : Int32} (I : IV o f0 f2 q mf) : Two mX6_full mX7_full X [.int b, .int v] isI o f0 f1 f2 mf wf q :=
  Two.sp I (ev_X6_full (d := 6) I.1) (fun _ _ => ev_X7_full (d := 5) I.g) (E_full I.1 I.2.1)
theorem two_dark {t : Int32} (I : IV o f0 f2 q mf) : Two mX6_dark mX7_dark X [.int t] isI o f0 f1 f2 mf wf q :=
  Two.sp I (ev_X6_dark (d := 6) I.1) (fun _ _ => ev_X7_dark (d := 5) I.g) (E_dark I.1 I.2.1)
theorem two_brightest (I : IV o f0 f2 q mf) : Two mX6_brightest mX7_brightest X [] isI o f0 f1 f2 mf wf q :=
  Two.sp I (ev_X6_brightest (d := 8) I.1) (fun _ _ => ev_X7_brightest (d := 8) I.g) (E_brightest I.1 I.2.1)
theorem two_spot {b n : Int32} (I : IV o f0 f2 q mf) : Two mX6_spot mX7_spot X [.int b, .int n] isI o f0 f1 f2 mf wf q :=
  Two.sp I (ev_X6_spot (d := 5) I.1) (fun _ _ => ev_X7_spot (d := 2) I.g) (E_spot I.1 I.2.1)
theorem two_time {c : Int32} (I : IV o f0 f2 q mf) : Two mX6_time mX7_time X [.int c] isI o f0 f1 f2 mf wf q :=
  Two.sp I (ev_X6_time (d := 8) I.1) (fun _ _ => ev_X7_time (d := 8) I.g) (E_time I.1 I.2.1)
theorem two_net {b n : Int32} (I : IV o f0 f2 q mf) : Two mX6_net mX7_net X [.int b, .int n] isI o f0 f1 f2 mf wf q :=
  Two.sp I (ev_X6_net (d := 5) I.1) (fun _ _ => ev_X7_net (d := 2) I.g) (E_net I.1 I.2.1)
theorem two_gives {b n : Int32} (I : IV o f0 f2 q mf) : Two mX6_gives mX7_gives X [.int b, .int n] isI o f0 f1 f2 mf wf q :=
  Two.sp I (ev_X6_gives (d := 5) I.1) (fun _ _ => ev_X7_gives (d := 3) I.g) (E_gives I.1 I.2.1)
theorem two_kind {t n : Int32} (I : IV o f0 f2 q mf) : Two mX6_kind mX7_kind X [.int t, .int n] isI o f0 f1 f2 mf wf q :=
  Two.sp I (ev_X6_kind (d := 5) I.1) (fun _ _ => ev_X7_kind (d := 2) I.g) (E_kind I.1 I.2.1)
theorem two_rival {b b' n : Int32} (I : IV o f0 f2 q mf) : Two mX6_rival mX7_rival X [.int b, .int b', .int n] isI o f0 f1 f2 mf wf q :=
  Two.sp I (ev_X6_rival (d := 5) I.1) (fun _ _ => ev_X7_rival (d := 3) I.g) (E_rival I.1 I.2.1)
theorem two_way {a b : Int32} (I : IV o f0 f2 q mf) : Two mX6_way mX7_way X [.int a, .int b] isI o f0 f1 f2 mf wf q := by
  refine (ev_X6_way (d := 10)).mono (fun v h' hq => ?_)
  obtain ⟨e1, g1, e2⟩ := hq
  have s := E_way (a := a) (b := b) I.1 I.2.1
  refine ⟨_, _, _, g1, _, ⟨_, rfl⟩, e1, e2, (ev_X7_way (d := 9)).mono (fun v' h'' hq => ?_)⟩
  obtain ⟨e3, mf', wf', co, ed, e4, e5⟩ := hq
  exact ⟨by rw [e3, s.1], mf', wf', _, (IV.sp (I.w (co := co) (ed := ed)) s).2 _ e4, e5⟩
theorem two_feed {x n : Int32} (I : IV o f0 f2 q mf) : Two mX6_feed mX7_feed X [.int x, .int n] isI o f0 f1 f2 mf wf q := by
  obtain ⟨L, hL, e1, e2⟩ := I.2.2.2.2.2.2.2.1
  have hz := I.2.2.2.2.2.2.2.2.1
  exact Two.cp (ev_X6_feed (d := 11) e1 hL) (fun _ _ => ev_X7_feed (d := 11) e2 hL) (S_feed I) (by
    unfold c_feed
    (repeat' split) <;> exact ⟨_, rfl⟩)
theorem two_wipe (I : IV o f0 f2 q mf) : Two mX6_wipe mX7_wipe X [] isI o f0 f1 f2 mf wf q := by
  obtain ⟨L, hL, e1, e2⟩ := I.2.2.2.2.2.2.2.1
  have hz := I.2.2.2.2.2.2.2.2.1
  exact Two.cp (ev_X6_wipe (d := 12) ) (fun _ _ => ev_X7_wipe (d := 12) ) (S_wipe I) (⟨_, rfl⟩)
theorem two_lake (I : IV o f0 f2 q mf) : Two mX6_lake mX7_lake X [] isI o f0 f1 f2 mf wf q := by
  obtain ⟨L, hL, e1, e2⟩ := I.2.2.2.2.2.2.2.1
  have hz := I.2.2.2.2.2.2.2.2.1
  exact Two.cp (ev_X6_lake (d := 3) e1 hL I.1) (fun _ _ => ev_X7_lake (d := 5) e2 hL I.g) (S_lake I hL) (⟨_, rfl⟩)
theorem two_sheet {s b n : Int32} (I : IV o f0 f2 q mf) : Two mX6_sheet mX7_sheet X [.int s, .int b, .int n] isI o f0 f1 f2 mf wf q := by
  obtain ⟨L, hL, e1, e2⟩ := I.2.2.2.2.2.2.2.1
  have hz := I.2.2.2.2.2.2.2.2.1
  exact Two.cp (ev_X6_sheet (d := 10) ) (fun _ _ => ev_X7_sheet (d := 10) ) (S_sheet I) (by
    unfold c_sheet cF
    (repeat' split) <;> exact ⟨_, rfl⟩)
theorem two_write {s i : Int32} {v : Int64} (I : IV o f0 f2 q mf) : Two mX6_write mX7_write X [.int s, .int i, .long v] isJ o f0 f1 f2 mf wf q := by
  obtain ⟨L, hL, e1, e2⟩ := I.2.2.2.2.2.2.2.1
  have hz := I.2.2.2.2.2.2.2.2.1
  exact Two.cp (ev_X6_write (d := 10) hz) (fun _ _ => ev_X7_write (d := 9) I.qz) (S_write I) (by
    unfold c_write cFL
    (repeat' split) <;> exact ⟨_, rfl⟩)
theorem two_copy {s a t b n : Int32} (I : IV o f0 f2 q mf) : Two mX6_copy mX7_copy X [.int s, .int a, .int t, .int b, .int n] isI o f0 f1 f2 mf wf q := by
  obtain ⟨L, hL, e1, e2⟩ := I.2.2.2.2.2.2.2.1
  have hz := I.2.2.2.2.2.2.2.2.1
  exact Two.cp (ev_X6_copy (d := 10) hz) (fun _ _ => ev_X7_copy (d := 9) I.qz) (S_copy I) (by
    unfold c_copy cF
    (repeat' split) <;> exact ⟨_, rfl⟩)
theorem two_lays {s : Int32} (I : IV o f0 f2 q mf) : Two mX6_lays mX7_lays X [.int s] isI o f0 f1 f2 mf wf q := by
  obtain ⟨L, hL, e1, e2⟩ := I.2.2.2.2.2.2.2.1
  have hz := I.2.2.2.2.2.2.2.2.1
  exact Two.cp (ev_X6_lays (d := 10) I.1 hz) (fun _ _ => ev_X7_lays (d := 9) I.g I.qz) (S_lays I) (by
    unfold c_lays cF
    (repeat' split) <;> exact ⟨_, rfl⟩)
theorem two_book {s b : Int32} (I : IV o f0 f2 q mf) : Two mX6_book mX7_book X [.int s, .int b] isI o f0 f1 f2 mf wf q := by
  obtain ⟨L, hL, e1, e2⟩ := I.2.2.2.2.2.2.2.1
  have hz := I.2.2.2.2.2.2.2.2.1
  exact Two.cp (ev_X6_book (d := 6) I.1 hz) (fun _ _ => ev_X7_book (d := 5) I.g I.qz) (S_book I) (by
    unfold c_book cF
    (repeat' split) <;> exact ⟨_, rfl⟩)
theorem two_read {s b : Int32} (I : IV o f0 f2 q mf) : Two mX6_read mX7_read X [.int s, .int b] isI o f0 f1 f2 mf wf q := by
  obtain ⟨L, hL, e1, e2⟩ := I.2.2.2.2.2.2.2.1
  have hz := I.2.2.2.2.2.2.2.2.1
  exact Two.cp (ev_X6_read (d := 5) I.1 hz) (fun _ _ => ev_X7_read (d := 4) I.g I.qz) (S_read I) (by
    unfold c_read cF
    (repeat' split) <;> exact ⟨_, rfl⟩)
theorem two_image (I : IV o f0 f2 q mf) : Two mX6_image mX7_image X [] isI o f0 f1 f2 mf wf q := by
  obtain ⟨L, hL, e1, e2⟩ := I.2.2.2.2.2.2.2.1
  have hz := I.2.2.2.2.2.2.2.2.1
  exact Two.cp (ev_X6_image (d := 10) I.1) (fun _ _ => ev_X7_image (d := 11) ) (S_image I) (⟨_, rfl⟩)
theorem two_undo (I : IV o f0 f2 q mf) : Two mX6_undo mX7_undo X [] isI o f0 f1 f2 mf wf q := by
  obtain ⟨L, hL, e1, e2⟩ := I.2.2.2.2.2.2.2.1
  have hz := I.2.2.2.2.2.2.2.2.1
  exact Two.cp (ev_X6_undo (d := 10) I.2.2.1) (fun _ _ => ev_X7_undo (d := 11) ) (S_undo I) (by
    unfold c_undo
    (repeat' split) <;> exact ⟨_, rfl⟩)
theorem two_tear (I : IV o f0 f2 q mf) : Two mX6_tear mX7_tear X [] isI o f0 f1 f2 mf wf q := by
  obtain ⟨L, hL, e1, e2⟩ := I.2.2.2.2.2.2.2.1
  have hz := I.2.2.2.2.2.2.2.2.1
  exact Two.cp (ev_X6_tear (d := 12) ) (fun _ _ => ev_X7_tear (d := 12) ) (S_tear I) (⟨_, rfl⟩)
theorem two_count {w : Int32} (I : IV o f0 f2 q mf) : Two mX6_count mX7_count X [.int w] isI o f0 f1 f2 mf wf q := by
  obtain ⟨L, hL, e1, e2⟩ := I.2.2.2.2.2.2.2.1
  have hz := I.2.2.2.2.2.2.2.2.1
  exact Two.cp (ev_X6_count (d := 9) I.1) (fun _ _ => ev_X7_count (d := 9) I.g) (S_count I) (by
    unfold c_count
    split <;> exact ⟨_, rfl⟩)
theorem two_status {w : Int32} (I : IV o f0 f2 q mf) : Two mX6_status mX7_status X [.int w] isI o f0 f1 f2 mf wf q := by
  obtain ⟨L, hL, e1, e2⟩ := I.2.2.2.2.2.2.2.1
  have hz := I.2.2.2.2.2.2.2.2.1
  exact Two.cp (ev_X6_status (d := 11) ) (fun _ _ => ev_X7_status (d := 11) ) (S_stat I) (by
    unfold c_stat
    split <;> exact ⟨_, rfl⟩)
end
