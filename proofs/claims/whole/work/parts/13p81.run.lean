/-! PART 81: a run of commands, both sides -/
theorem mT_now (Y : MS) (N : Nat → Int32) (a C F v : Int32) (g : Nat → Int32) : ms_now_s (ms_refusal_s (mT Y N a C F) v) g = mT (ms_now_s (ms_refusal_s Y v) g) N a C F := rfl
theorem mT_ref (Y : MS) (N : Nat → Int32) (a C F v : Int32) : ms_refusal_s (mT Y N a C F) v = mT (ms_refusal_s Y v) N a C F := rfl
set_option maxHeartbeats 80000 in
theorem rn_end' {t : TS} {T : Nat → Int32} {L q : Nat} {N : Nat → Int32} {w : Option Nat} (h : CT t T L) (hL : L ≤ 150) (hq : q ≤ L) (hp : skc T L q = L) : M_X1_readNext (tT t N (nI q) w) = some (false, tT t N (nI L) w) := by
  have g : ts_len (tT t N (nI L) w) ≤ ts_cur (tT t N (nI L) w) := by
    rw [tT_at]
    show ts_len t ≤ nI L
    rw [h.1]; exact Int32.le_refl _
  unfold M_X1_readNext M_X1_readNext_27 M_X1_readNext_28
  rw [cs_skip h hL hq, ob_some, hp, if_pos g]
set_option maxHeartbeats 80000 in
theorem rn_go {t : TS} {T : Nat → Int32} {L q p : Nat} {N : Nat → Int32} {w : Option Nat} (h : CT t T L) (hL : L ≤ 150) (hq : q ≤ L) (hp : skc T L q = p) (hpL : p < L) (hok : (cmdF T L p).1 = true) : ∃ N', M_X1_readNext (tT t N (nI q) w) = some (true, tT t N' (nI (cmdF T L p).2.1) (some (cmdF T L p).2.2)) ∧ (cmdF T L p).2.2 < 10 ∧ ∀ k, k < wN.getD (cmdF T L p).2.2 0 → N' k = cmdV T L p k := by
  obtain ⟨N', c', w', e1, e2⟩ := c_read (p := p) (N := N) (w := w) h hL (by omega)
  obtain ⟨c1, c2, c3, c4⟩ := e2 hok
  rw [hok, if_pos rfl, c1, c2] at e1
  have g : ¬ ts_len (tT t N (nI p) w) ≤ ts_cur (tT t N (nI p) w) := by
    rw [tT_at]
    show ¬ ts_len t ≤ nI p
    rw [h.1]; exact nI_ge hpL (by omega)
  refine ⟨N', ?_, c3, c4⟩
  unfold M_X1_readNext M_X1_readNext_28
  rw [cs_skip h hL hq, ob_some, hp, if_neg g, e1, ob_some, if_pos rfl]
/-- how a run ends -/
def RunE (x : SS) (y : MS) (t : TS) (X' : SS) (Y' : MS) : Prop := DOK (ss_drv X') (ms_now Y') ∧ ss_his X' = ss_his x ∧ (∃ N c w, ss_txt X' = tT t N c w) ∧ ms_past Y' = ms_past y ∧ ms_saved Y' = ms_saved y ∧ ms_text Y' = ms_text y ∧ ms_length Y' = ms_length y ∧ ms_isRun Y' = false ∧ ms_refusal Y' = 0
theorem runE_end {x X' : SS} {Y : MS} {t : TS} {N : Nat → Int32} {a C F q : Int32} (hD : DOK (ss_drv X') (ms_now Y)) (h1 : ss_his X' = ss_his x) (h2 : ∃ N c w, ss_txt X' = tT t N c w) : RunE x Y t X' (ms_refusal_s (ms_isRun_s (mT (ms_refusal_s Y q) N a C F) false) 0) := ⟨hD, h1, h2, rfl, rfl, rfl, rfl, rfl, rfl⟩
theorem RunE.step {X X' : SS} {Y Y' : MS} {t t1 : TS} {d' : DS} {v : Int32} {g : Nat → Int32} (h : RunE (ss_drv_s (ss_txt_s X t1) d') (ms_now_s (ms_refusal_s Y v) g) t X' Y') : RunE X Y t X' Y' := h
theorem r87 (x y : MS) (v : Int32) : M_X7_runCommands_87 x v y = some (v, ms_refusal_s (ms_isRun_s y false) 0) := by
  unfold M_X7_runCommands_87
  rw [tb_eq, tb_eq]
set_option maxHeartbeats 80000 in
theorem c38_stop {x0 X X' : SS} {i : Nat} (hi : i < 150) {t' : TS} (e1 : M_X1_readNext (ss_txt X) = some (false, t')) (kk : Int32 × SS → Option (Int32 × SS)) : M_X6_runCommands_38s x0 kk (nI i, X) = some (nI i, ss_txt_s X t') := by
  have g : ¬ (150 : Int32) ≤ (nI i, X).1 := nI_ge (a := i) (b := 150) hi (by omega)
  unfold M_X6_runCommands_38s M_X6_runCommands_72
  rw [if_neg g, e1, ob_some, tb_eq, if_pos (show zI false = 0 from rfl)]
set_option maxHeartbeats 80000 in
theorem c38_go {x0 X : SS} {i : Nat} (hi : i < 150) {t' : TS} (e1 : M_X1_readNext (ss_txt X) = some (true, t')) (kk : Int32 × SS → Option (Int32 × SS)) : M_X6_runCommands_38s x0 kk (nI i, X) = ((M_X6_faultOfCommand (ss_txt_s X t')).bind fun r5 => (if r5 = 0 then ((M_X6_obeyCommand (ss_txt_s X t')).bind fun r7 => (kk (nI (i + 1), r7))) else some (nI i, ss_txt_s X t'))) := by
  have g : ¬ (150 : Int32) ≤ (nI i, X).1 := nI_ge (a := i) (b := 150) hi (by omega)
  unfold M_X6_runCommands_38s M_X6_runCommands_72
  rw [if_neg g, e1, ob_some, tb_eq, if_neg (show ¬ zI true = 0 by decide), nI_1]
set_option maxHeartbeats 80000 in
theorem c38_full {x0 X : SS} {i : Nat} (hi : i = 150) (kk : Int32 × SS → Option (Int32 × SS)) : M_X6_runCommands_38s x0 kk (nI i, X) = some (nI i, X) := by
  have g : (150 : Int32) ≤ (nI i, X).1 := by
    show (150 : Int32) ≤ nI i
    rw [hi]; decide
  unfold M_X6_runCommands_38s M_X6_runCommands_72
  rw [if_pos g]
set_option maxHeartbeats 80000 in
theorem r43_end {y0 y : MS} {T : Nat → Int32} {L i p : Nat} {N : Nat → Int32} {C F : Int32} {b : Bool} (h : RT y T L) (hp : p = L ∨ b = false) (kk : Int32 × Bool × MS → Option (Int32 × MS)) : M_X7_runCommands_43s y0 kk (nI i, b, mT y N (nI p) C F) = some (nI i, ms_refusal_s (ms_isRun_s (mT y N (nI p) C F) false) 0) := by
  unfold M_X7_runCommands_43s
  rcases hp with q | q
  · have g : ms_length (nI i, b, mT y N (nI p) C F).2.2 ≤ ms_at (nI i, b, mT y N (nI p) C F).2.2 := by
      rw [mT_at, (RT.mT h N (nI p) C F).1, q]; exact Int32.le_refl _
    rw [if_pos g, r87]
  · rw [q, if_pos (show zI false = 0 from rfl), r87]
    split <;> rfl
set_option maxHeartbeats 80000 in
theorem r43_go {y0 y : MS} {T : Nat → Int32} {L i p : Nat} {N : Nat → Int32} {C F : Int32} (h : RT y T L) (hL : L ≤ 150) (hp : p < L) (kk : Int32 × Bool × MS → Option (Int32 × MS)) : M_X7_runCommands_43s y0 kk (nI i, true, mT y N (nI p) C F) = ((M_X7_readsCommand (mT y N (nI p) C F)).bind fun r3 => ((M_X7_does r3.2).bind fun r4 => (if (zI r4.1) = 0 then (M_X7_runCommands_78 y0 kk r4.1 (nI i) false r4.2) else (M_X7_runCommands_78 y0 kk r4.1 (nI i) true r4.2)))) := by
  have g : ¬ ms_length (nI i, true, mT y N (nI p) C F).2.2 ≤ ms_at (nI i, true, mT y N (nI p) C F).2.2 := by
    rw [mT_at, (RT.mT h N (nI p) C F).1]; exact nI_ge hp (by omega)
  unfold M_X7_runCommands_43s
  rw [if_neg g, if_neg (show ¬ zI true = 0 by decide)]
theorem run_loop {t : TS} {T : Nat → Int32} {L : Nat} (hC : CT t T L) (hL : L ≤ 150) (x0 : SS) (y0 : MS) : ∀ f p q i (X : SS) (Y : MS) N w N2 C F, p ≤ L → q ≤ L → skc T L q = p → okc T L f p = true → i ≤ p → ss_txt X = tT t N (nI q) w → RT Y T L → ms_isRun Y = true → DOK (ss_drv X) (ms_now Y) → ∃ v X' Y', (∀ M, f < M → lpF (M_X6_runCommands_38s x0) M (nI i, X) = some (v, X')) ∧ (∀ M, f < M → lpF (M_X7_runCommands_43s y0) M (nI i, true, mT Y N2 (nI p) C F) = some (v, Y')) ∧ RunE X Y t X' Y' := by
  intro f
  induction f with
  | zero =>
    intro p q i X Y N w N2 C F hp hq hs hok hi hX hR hr hD
    have e : p = L := by
      have : L ≤ p := of_decide_eq_true hok
      omega
    refine ⟨nI i, (if i = 150 then X else ss_txt_s X (tT t N (nI L) w)), ms_refusal_s (ms_isRun_s (mT Y N2 (nI p) C F) false) 0, ?_, ?_, ?_⟩
    · intro M hM
      obtain ⟨m, rfl⟩ : ∃ m, M = m + 1 := ⟨M - 1, by omega⟩
      rw [lpF_s]
      by_cases z : i = 150
      · rw [if_pos z, c38_full z]
      · rw [if_neg z, c38_stop (X' := X) (by omega) (by rw [hX]; exact rn_end' hC hL hq (hs.trans e))]
    · intro M hM
      obtain ⟨m, rfl⟩ : ∃ m, M = m + 1 := ⟨M - 1, by omega⟩
      rw [lpF_s, r43_end hR (Or.inl e)]
    · refine ⟨?_, ?_, ?_, rfl, rfl, rfl, rfl, rfl, rfl⟩
      · split <;> exact hD
      · split <;> rfl
      · split
        · exact ⟨_, _, _, hX⟩
        · exact ⟨_, _, _, rfl⟩
  | succ f ih =>
    intro p q i X Y N w N2 C F hp hq hs hok hi hX hR hr hD
    by_cases e : p = L
    · refine ⟨nI i, (if i = 150 then X else ss_txt_s X (tT t N (nI L) w)), ms_refusal_s (ms_isRun_s (mT Y N2 (nI p) C F) false) 0, ?_, ?_, ?_⟩
      · intro M hM
        obtain ⟨m, rfl⟩ : ∃ m, M = m + 1 := ⟨M - 1, by omega⟩
        rw [lpF_s]
        by_cases z : i = 150
        · rw [if_pos z, c38_full z]
        · rw [if_neg z, c38_stop (X' := X) (by omega) (by rw [hX]; exact rn_end' hC hL hq (hs.trans e))]
      · intro M hM
        obtain ⟨m, rfl⟩ : ∃ m, M = m + 1 := ⟨M - 1, by omega⟩
        rw [lpF_s, r43_end hR (Or.inl e)]
      · refine ⟨?_, ?_, ?_, rfl, rfl, rfl, rfl, rfl, rfl⟩
        · split <;> exact hD
        · split <;> rfl
        · split
          · exact ⟨_, _, _, hX⟩
          · exact ⟨_, _, _, rfl⟩
    · have hlt : p < L := by omega
      have hok2 : (cmdF T L p).1 = true ∧ okc T L f (nxt T L p) = true := by
        unfold okc at hok
        rw [decide_eq_false (show ¬ L ≤ p by omega), Bool.false_or, Bool.and_eq_true] at hok
        exact hok
      obtain ⟨hc1, hc2⟩ := hok2
      obtain ⟨g1, g2⟩ := cmdF_lt hp hL hc1
      obtain ⟨Na, a1, ae, a2⟩ := rn_go (N := N) (w := w) hC hL hq hs hlt hc1
      obtain ⟨Nb, ab, Cb, Fb, b1, b2, -⟩ := r_read (p := p) (N := N2) (C := C) (F := F) hR hL hp
      obtain ⟨d1, d2, d3, d4⟩ := b2 hc1
      rw [d1, d2, d3] at b1
      have hn1 : nxt T L p ≤ L := skc_le g2 hL
      have hn2 : (cmdF T L p).2.1 ≤ nxt T L p := skc_ge T L _
      have hi150 : i < 150 := by omega
      have a1' : M_X1_readNext (ss_txt X) = some (true, tT t Na (nI (cmdF T L p).2.1) (some (cmdF T L p).2.2)) := by rw [hX]; exact a1
      have hcw : CW (ss_txt_s X (tT t Na (nI (cmdF T L p).2.1) (some (cmdF T L p).2.2))) (mT Y Nb (nI (cmdF T L p).2.1) (nI (cmdF T L p).2.2) F) (cmdV T L p) (cmdF T L p).2.2 := ⟨rfl, rfl, fun k hk => ⟨a2 k hk, d4 k hk⟩⟩
      have hdo : DoR (ss_txt_s X (tT t Na (nI (cmdF T L p).2.1) (some (cmdF T L p).2.2))) (mT Y Nb (nI (cmdF T L p).2.1) (nI (cmdF T L p).2.2) F) := do_ok ae hcw hr hD
      have sk : ∀ (Z : MS) C', RT Z T L → M_X7_skips (mT Z Nb (nI (cmdF T L p).2.1) C' F) = some (mT Z Nb (nI (nxt T L p)) C' F) := fun Z C' hZ => rs_skip hZ hL g2
      rcases hdo with ⟨fl, qq, f1, f2, f3⟩ | ⟨f1, d', g, f2, f3, f4⟩
      · refine ⟨nI i, ss_txt_s X (tT t Na (nI (cmdF T L p).2.1) (some (cmdF T L p).2.2)), ms_refusal_s (ms_isRun_s (mT (ms_refusal_s Y qq) Nb (nI (nxt T L p)) (nI (cmdF T L p).2.2) F) false) 0, ?_, ?_, ?_⟩
        · intro M hM
          obtain ⟨m, rfl⟩ : ∃ m, M = m + 1 := ⟨M - 1, by omega⟩
          rw [lpF_s, c38_go hi150 a1', f1, ob_some, if_neg f2]
        · intro M hM
          obtain ⟨m, rfl⟩ : ∃ m, M = m + 1 + 1 := ⟨M - 2, by omega⟩
          rw [lpF_s, r43_go hR hL hlt, b1, ob_some, f3, ob_some, if_pos (show zI false = 0 from rfl)]
          unfold M_X7_runCommands_78
          rw [mT_ref, sk (ms_refusal_s Y qq) _ hR, ob_some, lpF_s]
          have z : nI i + zI false = nI i := nI_zI i false
          rw [z]
          exact r43_end (y := ms_refusal_s Y qq) (p := nxt T L p) hR (Or.inr rfl) _
        · exact runE_end (X' := ss_txt_s X (tT t Na (nI (cmdF T L p).2.1) (some (cmdF T L p).2.2))) hD rfl ⟨_, _, _, rfl⟩
      · obtain ⟨v, X', Y', r1, r2, r3⟩ := ih (nxt T L p) (cmdF T L p).2.1 (i + 1) (ss_drv_s (ss_txt_s X (tT t Na (nI (cmdF T L p).2.1) (some (cmdF T L p).2.2))) d') (ms_now_s (ms_refusal_s Y 0) g) Na (some (cmdF T L p).2.2) Nb (nI (cmdF T L p).2.2) F hn1 g2 rfl hc2 (by omega) rfl hR hr f4
        refine ⟨v, X', Y', ?_, ?_, r3.step⟩
        · intro M hM
          obtain ⟨m, rfl⟩ : ∃ m, M = m + 1 := ⟨M - 1, by omega⟩
          rw [lpF_s, c38_go hi150 a1', f1, ob_some, if_pos (rfl : (0 : Int32) = 0), f2, ob_some]
          exact r1 m (by omega)
        · intro M hM
          obtain ⟨m, rfl⟩ : ∃ m, M = m + 1 := ⟨M - 1, by omega⟩
          rw [lpF_s, r43_go hR hL hlt, b1, ob_some, f3, ob_some, if_neg (show ¬ zI true = 0 by decide)]
          unfold M_X7_runCommands_78
          rw [mT_now, sk (ms_now_s (ms_refusal_s Y 0) g) _ hR, ob_some]
          have z : nI i + zI true = nI (i + 1) := nI_zI i true
          rw [z]
          exact r2 m (by omega)
theorem mT_run (Y : MS) (N : Nat → Int32) (a C F : Int32) (P : Nat → Int32) (S : Int32) : ms_at_s (ms_isRun_s (ms_saved_s (ms_past_s (mT Y N a C F) P) S) true) (0 : Int32) = mT (ms_isRun_s (ms_saved_s (ms_past_s Y P) S) true) N (nI 0) C F := rfl
theorem u_run {x : SS} {y : MS} (h : SRel x y) : ∃ v x' y', M_X6_runCommands x = some (v, x') ∧ M_X7_runCommands y = some (v, y') ∧ ms_refusal y' = 0 ∧ SRel x' y' := by
  obtain ⟨hd, hh, ht, hr⟩ := h
  obtain ⟨L, hL, hC, hR⟩ := ht.ct
  have hR0 : RT (ms_refusal_s y 0) (ms_text y) L := hR
  obtain ⟨v, N', c', w', N2, a2, C2, F2, e1, e2, e3, e4⟩ := ff_ok hC hR0 hL
  have hT1 : TRel (tT (ss_txt x) N' c' w') (ms_text y) (ms_length y) := ht
  have h1 : SRel (ss_txt_s x (tT (ss_txt x) N' c' w')) (mT (ms_refusal_s y 0) N2 a2 C2 F2) := ⟨hd, hh, hT1, hr⟩
  rcases e4 with ⟨z1, z2⟩ | ⟨q, hq, z⟩
  · subst z1
    obtain ⟨P, S, s1, s2⟩ := save_ok h1
    obtain ⟨X1, hX1⟩ : ∃ X1, X1 = ss_txt_s (ss_his_s (ss_txt_s x (tT (ss_txt x) N' c' w')) (M_X4_save (ss_his (ss_txt_s x (tT (ss_txt x) N' c' w'))) (ss_drv (ss_txt_s x (tT (ss_txt x) N' c' w'))))) (tT (ss_txt x) N' (nI 0) w') := ⟨_, rfl⟩
    have hs0 := skc_le (T := ms_text y) (Nat.zero_le L) hL
    have x1 : ss_txt X1 = tT (ss_txt x) N' (nI 0) w' := by rw [hX1]; rfl
    have x2 : DOK (ss_drv X1) (ms_now (ms_isRun_s (ms_saved_s (ms_past_s (ms_refusal_s y 0) P) S) true)) := by rw [hX1]; exact hd
    obtain ⟨v, X', Y', r1, r2, r3⟩ := run_loop hC hL (ss_txt_s x (tT (ss_txt x) N' c' w')) (mT (ms_refusal_s y 0) N2 a2 C2 F2) 150 (skc (ms_text y) L 0) 0 0 X1 (ms_isRun_s (ms_saved_s (ms_past_s (ms_refusal_s y 0) P) S) true) N' w' N2 C2 F2 hs0 (Nat.zero_le L) rfl z2 (Nat.zero_le _) x1 hR rfl x2
    obtain ⟨q1, q2, ⟨N3, c3, w3, q3⟩, q4, q5, q6, q7, q8, q9⟩ := r3
    refine ⟨v, X', Y', ?_, ?_, q9, q1, ?_, ?_, q8⟩
    · unfold M_X6_runCommands
      rw [e1, ob_some, tb_eq, if_pos (rfl : (-1 : Int32) = -1), tb_eq, tb_eq, tb_eq, tb_eq]
      have : ss_txt_s (ss_his_s (ss_txt_s x (tT (ss_txt x) N' c' w')) (M_X4_save (ss_his (ss_txt_s x (tT (ss_txt x) N' c' w'))) (ss_drv (ss_txt_s x (tT (ss_txt x) N' c' w'))))) (M_X1_rewind (ss_txt (ss_his_s (ss_txt_s x (tT (ss_txt x) N' c' w')) (M_X4_save (ss_his (ss_txt_s x (tT (ss_txt x) N' c' w'))) (ss_drv (ss_txt_s x (tT (ss_txt x) N' c' w'))))))) = X1 := by
        rw [hX1]; rfl
      rw [this]
      exact r1 400 (by omega)
    · unfold M_X7_runCommands
      rw [tb_eq, e2, ob_some, if_pos (rfl : (-1 : Int32) = -1), s1, ob_some, tb_eq, tb_eq, mT_run, rs_skip (y := ms_isRun_s (ms_saved_s (ms_past_s (ms_refusal_s y 0) P) S) true) hR hL (Nat.zero_le L), ob_some]
      exact r2 400 (by omega)
    · obtain ⟨-, hh2, -, -⟩ := s2
      rw [q2, q4, q5, hX1]
      exact hh2
    · rw [q3, q6, q7]
      exact ht
  · have hne : ¬ v = (-1 : Int32) := by rw [z]; exact nI_nm1 (by omega)
    refine ⟨(-10 : Int32) - v, ss_txt_s x (tT (ss_txt x) N' c' w'), mT (ms_refusal_s y 0) N2 a2 C2 F2, ?_, ?_, rfl, h1⟩
    · unfold M_X6_runCommands
      rw [e1, ob_some, tb_eq, if_neg hne]
    · unfold M_X7_runCommands
      rw [tb_eq, e2, ob_some, if_neg hne, show ms_fault (mT (ms_refusal_s y 0) N2 a2 C2 F2) = F2 from rfl, e3]
