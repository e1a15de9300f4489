/-! PART 60: the history on both sides -/
theorem DRel.rows {d : DS} {f g : Nat → Int32} {n : Nat} (h : DRel d f n) (e : ∀ i, i < 596 → g i = f i) : DRel d g n := by
  obtain ⟨h0, h1, h2, h3, h4, h5, h6, h7, h8⟩ := h
  refine ⟨(e 0 (by omega)).trans h0, (e 1 (by omega)).trans h1, h2, h3, (e 2 (by omega)).trans h4, (e 3 (by omega)).trans h5, fun b hb => (e _ (by omega)).trans (h6 b hb), fun i hi => (e _ (by omega)).trans (h7 i hi), fun k hk => (h8 k hk).congr hk h3 fun i _ h2 => e i (by omega)⟩
theorem DOK.rows {d : DS} {f g : Nat → Int32} (h : DOK d f) (e : ∀ i, i < 596 → g i = f i) : DOK d g := by
  obtain ⟨n, t, a, b, c⟩ := h
  exact ⟨n, t, a.rows e, b, c⟩
theorem cbecome (x x1 : CS) : M_X2_become x x1 = x1 := by
  obtain ⟨a, b, c, e, f, g, h, i⟩ := x1
  obtain ⟨a', b', c', e', f', g', h', i'⟩ := x
  rfl
theorem become_eq (x x1 : DS) : M_X3_become x x1 = (va_cpy (ds_val x1) (ds_val x) 0 0 16, va_cpy (ds_fac x1) (ds_fac x) 0 0 480, x1.2.2) := by
  obtain ⟨v, f, z, o, r1, r2, r3, r4⟩ := x1
  obtain ⟨v', f', z', o', r1', r2', r3', r4'⟩ := x
  unfold M_X3_become
  simp only [tb, cbecome]
  rfl
theorem become_fc {x x1 : DS} {o w : Nat} (ho : o < 40) (hw : w < 12) : fc (M_X3_become x x1) o w = fc x1 o w := by
  rw [become_eq]
  show va_cpy (ds_fac x1) (ds_fac x) 0 0 480 (12 * o + w) = ds_fac x1 (12 * o + w)
  exact sb_cpy0 (by omega)
theorem become_rel {x x1 : DS} {f : Nat → Int32} {n : Nat} (h : DRel x1 f n) : DRel (M_X3_become x x1) f n := by
  obtain ⟨h0, h1, h2, h3, h4, h5, h6, h7, h8⟩ := h
  rw [become_eq]
  refine ⟨h0, h1, h2, h3, h4, h5, fun b hb => ?_, fun i hi => ?_, fun k hk => h8 k hk⟩
  · show f (4 + b) = va_cpy (ds_val x1) (ds_val x) 0 0 16 b
    rw [sb_cpy0 hb]; exact h6 b hb
  · show f (116 + i) = va_cpy (ds_fac x1) (ds_fac x) 0 0 480 i
    rw [sb_cpy0 hi]; exact h7 i hi
theorem become_inv {x x1 : DS} {n : Nat} (hn : n ≤ 40) (h : DInv x1 n) : DInv (M_X3_become x x1) n :=
  h.next (fun o w ho hw => become_fc (by omega) (by omega)) (fun o ho => by rw [become_fc (by omega) (by omega)]; exact (h.1 o ho).2.2.2) h.2.1 rfl
theorem become_ok {x x1 : DS} {f : Nat → Int32} (h : DOK x1 f) : DOK (M_X3_become x x1) f := by
  obtain ⟨n, t, a, b, c, e⟩ := h
  exact ⟨n, t, become_rel a, become_inv a.le b, c, e⟩
/-- a row's copy to a place -/
def cpP (p f : Nat → Int32) (b j : Nat) : Nat → Int32 := fun m => if b ≤ m ∧ m < b + j then f (m - b) else p m
def shP (p : Nat → Int32) (j : Nat) : Nat → Int32 := fun m => if m < j then p (m + 596) else p m
theorem cpP_s {p f : Nat → Int32} {b j : Nat} : upd (cpP p f b j) (b + j) (f j) = cpP p f b (j + 1) := by
  funext m
  unfold upd cpP
  by_cases q : m = b + j
  · rw [if_pos q, if_pos (by omega), q, Nat.add_sub_cancel_left]
  · rw [if_neg q]
    by_cases q2 : b ≤ m ∧ m < b + j
    · rw [if_pos q2, if_pos (by omega)]
    · rw [if_neg q2, if_neg (by omega)]
theorem shP_s {p : Nat → Int32} {j : Nat} : upd (shP p j) j (shP p j (j + 596)) = shP p (j + 1) := by
  funext m
  unfold upd shP
  by_cases q : m = j
  · rw [if_pos q, if_neg (by omega), if_pos (by omega), q]
  · rw [if_neg q]
    by_cases q2 : m < j
    · rw [if_pos q2, if_pos (by omega)]
    · rw [if_neg q2, if_neg (by omega)]
theorem r_saves57 {y0 y : MS} {s : Nat} (hs : ms_saved y = nI s) (hs4 : s < 4) : M_X7_saves_57 y0 y = some (ms_saved_s (ms_past_s y (cpP (ms_past y) (ms_now y) (596 * s) 596)) (nI (s + 1))) := by
  unfold M_X7_saves_57
  have e0 : (((0 : Int32), y) : Int32 × MS) = (fun i => (nI i, ms_past_s y (cpP (ms_past y) (ms_now y) (596 * s) i))) 0 := by
    have : cpP (ms_past y) (ms_now y) (596 * s) 0 = ms_past y := by
      funext m; unfold cpP; rw [if_neg (by omega)]
    simp only [this]; rfl
  rw [e0]
  refine lp_run (fun i => (nI i, ms_past_s y (cpP (ms_past y) (ms_now y) (596 * s) i))) 596 ?_ ?_ 4000 (by omega)
  · intro i hi kk
    unfold M_X7_saves_59s
    have g : ¬ (596 : Int32) ≤ nI i := nI_ge (a := i) (b := 596) hi (by omega)
    have a1 : ald 596 (ms_now (ms_past_s y (cpP (ms_past y) (ms_now y) (596 * s) i))) (nI i) = some (ms_now y i) := ald_nI hi (by omega)
    have e1 : (596 : Int32) * ms_saved (ms_past_s y (cpP (ms_past y) (ms_now y) (596 * s) i)) + nI i = nI (596 * s + i) := by
      rw [show ms_saved (ms_past_s y (cpP (ms_past y) (ms_now y) (596 * s) i)) = nI s from hs, show (596 : Int32) = nI 596 from rfl, pk_mul, nI_add]
    have a2 : ast 2384 (ms_past (ms_past_s y (cpP (ms_past y) (ms_now y) (596 * s) i))) (nI (596 * s + i)) (ms_now y i) = some (cpP (ms_past y) (ms_now y) (596 * s) (i + 1)) := by
      rw [ast_nI (by omega) (by omega)]
      exact congrArg some cpP_s
    simp only [g, if_false, a1, ob_some, e1, a2, tb, nI_1]
    rfl
  · intro kk
    unfold M_X7_saves_59s
    have g : (596 : Int32) ≤ nI 596 := by decide
    simp only [g, if_true]
    rw [show ms_saved (ms_past_s y (cpP (ms_past y) (ms_now y) (596 * s) 596)) = nI s from hs, nI_1]
theorem r_saves {y : MS} {S : Nat} (hr : ms_isRun y = false) (hS : ms_saved y = nI S) (hS4 : S ≤ 4) : M_X7_saves y = some (ms_saved_s (ms_past_s y (if S = 4 then cpP (shP (ms_past y) 1788) (ms_now y) (596 * 3) 596 else cpP (ms_past y) (ms_now y) (596 * S) 596)) (nI (if S = 4 then 4 else S + 1))) := by
  unfold M_X7_saves
  rw [hr, zI_if]
  simp only [Bool.false_eq_true, if_false, hS]
  by_cases q : S = 4
  · subst q
    rw [if_pos (show nI 4 = (4 : Int32) from rfl), if_pos rfl, if_pos rfl]
    have e0 : (((0 : Int32), y) : Int32 × MS) = (fun i => (nI i, ms_past_s y (shP (ms_past y) i))) 0 := rfl
    rw [e0]
    refine lp_run (fun i => (nI i, ms_past_s y (shP (ms_past y) i))) 1788 ?_ ?_ 4000 (by omega)
    · intro i hi kk
      unfold M_X7_saves_18s
      have g : ¬ (1788 : Int32) ≤ nI i := nI_ge (a := i) (b := 1788) hi (by omega)
      have e1 : nI i + (596 : Int32) = nI (i + 596) := nI_add i 596
      have a1 : ald 2384 (ms_past (ms_past_s y (shP (ms_past y) i))) (nI (i + 596)) = some (shP (ms_past y) i (i + 596)) := ald_nI (by omega) (by omega)
      have a2 : ast 2384 (ms_past (ms_past_s y (shP (ms_past y) i))) (nI i) (shP (ms_past y) i (i + 596)) = some (shP (ms_past y) (i + 1)) := by
        rw [ast_nI (by omega) (by omega)]
        exact congrArg some shP_s
      simp only [g, if_false, e1, a1, ob_some, a2, tb, nI_1]
      rfl
    · intro kk
      unfold M_X7_saves_18s
      have g : (1788 : Int32) ≤ nI 1788 := by decide
      simp only [g, if_true]
      have e3 : ms_saved (ms_past_s y (shP (ms_past y) 1788)) - (1 : Int32) = nI 3 := by
        rw [show ms_saved (ms_past_s y (shP (ms_past y) 1788)) = nI 4 from hS]; rfl
      rw [e3]
      exact r_saves57 (y := ms_saved_s (ms_past_s y (shP (ms_past y) 1788)) (nI 3)) (s := 3) rfl (by omega)
  · rw [if_neg (show ¬ nI S = (4 : Int32) from fun h => q ((nI_eq (b := 4) (by omega) (by omega)).mp h)), if_neg q, if_neg q]
    exact r_saves57 hS (by omega)
theorem c_save {hs : HS} {d : DS} {w S : Nat} (hw : w < 4) (hS : S ≤ 4) (e1 : hs_size hs = nI S) (e2 : hs_new hs = nI w) : M_X4_save hs d = (upS (hs_sv hs) ((w + 1) % 4) (M_X3_become (hs_sv hs ((w + 1) % 4)) d), nI (if S = 4 then 4 else S + 1), nI ((w + 1) % 4)) := by
  obtain ⟨sv, sz, nw⟩ := hs
  simp only [hs_size, hs_new] at e1 e2
  subst e1 e2
  rcases (show w = 0 ∨ w = 1 ∨ w = 2 ∨ w = 3 by omega) with rfl | rfl | rfl | rfl <;> rcases (show S = 0 ∨ S = 1 ∨ S = 2 ∨ S = 3 ∨ S = 4 by omega) with rfl | rfl | rfl | rfl | rfl <;> rfl
theorem upS_s {f : Nat → DS} {k : Nat} {v : DS} : upS f k v k = v := by
  show (bif Nat.beq k k then v else f k) = v
  rw [show Nat.beq k k = true from Nat.beq_refl k]; rfl
theorem upS_n {f : Nat → DS} {k j : Nat} {v : DS} (h : j ≠ k) : upS f k v j = f j := by
  show (bif Nat.beq j k then v else f j) = f j
  cases hb : Nat.beq j k
  · rfl
  · exact absurd (Nat.eq_of_beq_eq_true hb) h
theorem save_ok {x : SS} {y : MS} (h : SRel x y) : ∃ P T, M_X7_saves y = some (ms_saved_s (ms_past_s y P) T) ∧ SRel (ss_his_s x (M_X4_save (ss_his x) (ss_drv x))) (ms_saved_s (ms_past_s y P) T) := by
  obtain ⟨hd, ⟨S, hS, w, hw, hS4, e1, e2, hk⟩, ht, hr⟩ := h
  refine ⟨_, _, r_saves hr hS hS4, hd, ⟨if S = 4 then 4 else S + 1, rfl, (w + 1) % 4, Nat.mod_lt _ (by decide), by split <;> omega, ?_, ?_, ?_⟩, ht, hr⟩
  · show hs_size (M_X4_save (ss_his x) (ss_drv x)) = _
    rw [c_save hw hS4 e1 e2]; rfl
  · show hs_new (M_X4_save (ss_his x) (ss_drv x)) = _
    rw [c_save hw hS4 e1 e2]; rfl
  · intro k hk2
    show DOK (hs_sv (M_X4_save (ss_his x) (ss_drv x)) _) (fun i => (if S = 4 then cpP (shP (ms_past y) 1788) (ms_now y) (596 * 3) 596 else cpP (ms_past y) (ms_now y) (596 * S) 596) (596 * k + i))
    rw [c_save hw hS4 e1 e2]
    show DOK (upS (hs_sv (ss_his x)) ((w + 1) % 4) (M_X3_become (hs_sv (ss_his x) ((w + 1) % 4)) (ss_drv x)) _) _
    by_cases q : S = 4
    · simp only [if_pos q] at hk2 ⊢
      by_cases q2 : k = 3
      · rw [show ((w + 1) % 4 + 9 + k - 4) % 4 = (w + 1) % 4 by omega, upS_s]
        refine (become_ok hd).rows fun i hi => ?_
        unfold cpP
        rw [if_pos (by omega)]
        exact congrArg (ms_now y) (by omega)
      · rw [upS_n (by omega)]
        have := hk (k + 1) (by omega)
        rw [show (w + 9 + (k + 1) - S) % 4 = ((w + 1) % 4 + 9 + k - 4) % 4 by omega] at this
        refine this.rows fun i hi => ?_
        unfold cpP shP
        rw [if_neg (by omega), if_pos (by omega)]
        exact congrArg (ms_past y) (by omega)
    · simp only [if_neg q] at hk2 ⊢
      by_cases q2 : k = S
      · rw [show ((w + 1) % 4 + 9 + k - (S + 1)) % 4 = (w + 1) % 4 by omega, upS_s]
        refine (become_ok hd).rows fun i hi => ?_
        unfold cpP
        rw [if_pos (by omega)]
        exact congrArg (ms_now y) (by omega)
      · rw [upS_n (by omega)]
        have := hk k (by omega)
        rw [show (w + 9 + k - S) % 4 = ((w + 1) % 4 + 9 + k - (S + 1)) % 4 by omega] at this
        refine this.rows fun i hi => ?_
        unfold cpP
        rw [if_neg (by omega)]
theorem c_restore {hs : HS} {d : DS} {w S : Nat} (hw : w < 4) (hS : S < 4) (e1 : hs_size hs = nI (S + 1)) (e2 : hs_new hs = nI w) : M_X4_restoreTo hs d = (nI S, (hs_sv hs, nI S, nI ((w + 3) % 4)), M_X3_become d (hs_sv hs w)) := by
  obtain ⟨sv, sz, nw⟩ := hs
  simp only [hs_size, hs_new] at e1 e2
  subst e1 e2
  have g : ¬ hs_size (sv, nI (S + 1), nI w) ≤ 0 := show ¬ nI (S + 1) ≤ 0 from nI_nle (by omega) (by omega)
  have p : nI (S + 1) - 1 = nI S := nI_pred S
  rcases (show w = 0 ∨ w = 1 ∨ w = 2 ∨ w = 3 by omega) with rfl | rfl | rfl | rfl
  · unfold M_X4_restoreTo
    rw [if_pos (show hs_new (sv, nI (S + 1), nI 0) = 0 from rfl), if_neg g]
    unfold tb
    refine Eq.trans (b := M_X4_restoreTo_43 (sv, nI (S + 1), nI 0) d (3 : Int32) (sv, nI (S + 1), nI 0) (M_X3_become d (sv 0))) (if_pos (show hs_new (sv, nI (S + 1), nI 0) ≤ 0 from (by decide : nI 0 ≤ 0))) ?_
    show (nI (S + 1) - 1, (sv, nI (S + 1) - 1, nI 3), M_X3_become d (sv 0)) = (nI S, (sv, nI S, nI ((0 + 3) % 4)), M_X3_become d (sv 0))
    rw [p]
  · unfold M_X4_restoreTo
    rw [if_neg (show ¬ hs_new (sv, nI (S + 1), nI 1) = 0 from (by decide : ¬ nI 1 = 0)), if_pos (show hs_new (sv, nI (S + 1), nI 1) = 1 from rfl), if_neg g]
    unfold tb
    refine Eq.trans (b := M_X4_restoreTo_43 (sv, nI (S + 1), nI 1) d (hs_new (sv, nI (S + 1), nI 1) - (1 : Int32)) (sv, nI (S + 1), nI 1) (M_X3_become d (sv 1))) (if_neg (show ¬ hs_new (sv, nI (S + 1), nI 1) ≤ 0 from (by decide : ¬ nI 1 ≤ 0))) ?_
    show (nI (S + 1) - 1, (sv, nI (S + 1) - 1, nI 1 - 1), M_X3_become d (sv 1)) = (nI S, (sv, nI S, nI ((1 + 3) % 4)), M_X3_become d (sv 1))
    rw [p, show nI 1 - 1 = nI 0 from nI_pred 0]
  · unfold M_X4_restoreTo
    rw [if_neg (show ¬ hs_new (sv, nI (S + 1), nI 2) = 0 from (by decide : ¬ nI 2 = 0)), if_neg (show ¬ hs_new (sv, nI (S + 1), nI 2) = 1 from (by decide : ¬ nI 2 = 1)), if_pos (show hs_new (sv, nI (S + 1), nI 2) = 2 from rfl), if_neg g]
    unfold tb
    refine Eq.trans (b := M_X4_restoreTo_43 (sv, nI (S + 1), nI 2) d (hs_new (sv, nI (S + 1), nI 2) - (1 : Int32)) (sv, nI (S + 1), nI 2) (M_X3_become d (sv 2))) (if_neg (show ¬ hs_new (sv, nI (S + 1), nI 2) ≤ 0 from (by decide : ¬ nI 2 ≤ 0))) ?_
    show (nI (S + 1) - 1, (sv, nI (S + 1) - 1, nI 2 - 1), M_X3_become d (sv 2)) = (nI S, (sv, nI S, nI ((2 + 3) % 4)), M_X3_become d (sv 2))
    rw [p, show nI 2 - 1 = nI 1 from nI_pred 1]
  · unfold M_X4_restoreTo
    rw [if_neg (show ¬ hs_new (sv, nI (S + 1), nI 3) = 0 from (by decide : ¬ nI 3 = 0)), if_neg (show ¬ hs_new (sv, nI (S + 1), nI 3) = 1 from (by decide : ¬ nI 3 = 1)), if_neg (show ¬ hs_new (sv, nI (S + 1), nI 3) = 2 from (by decide : ¬ nI 3 = 2)), if_pos (show hs_new (sv, nI (S + 1), nI 3) = 3 from rfl), if_neg g]
    unfold tb
    refine Eq.trans (b := M_X4_restoreTo_43 (sv, nI (S + 1), nI 3) d (hs_new (sv, nI (S + 1), nI 3) - (1 : Int32)) (sv, nI (S + 1), nI 3) (M_X3_become d (sv 3))) (if_neg (show ¬ hs_new (sv, nI (S + 1), nI 3) ≤ 0 from (by decide : ¬ nI 3 ≤ 0))) ?_
    show (nI (S + 1) - 1, (sv, nI (S + 1) - 1, nI 3 - 1), M_X3_become d (sv 3)) = (nI S, (sv, nI S, nI ((3 + 3) % 4)), M_X3_become d (sv 3))
    rw [p, show nI 3 - 1 = nI 2 from nI_pred 2]
theorem u_undo {x : SS} {y : MS} (h : SRel x y) : AgU (fun c q => c = 3 ∧ q = 1) x (M_X6_undo x) (M_X7_undo y) := by
  have h' := h
  obtain ⟨hd, ⟨S, hS, w, hw, hS4, e1, e2, hk⟩, ht, hr⟩ := h'
  unfold M_X6_undo M_X7_undo M_X6_undo_15 M_X7_undo_13
  rw [e1, hS]
  cases S with
  | zero =>
    left
    exact ⟨3, 1, 0, ms_refusal_s y 1, rfl, rfl, rfl, ⟨rfl, rfl⟩, h⟩
  | succ S =>
    right
    have z : ¬ nI (S + 1) = 0 := nI_ne0 (by omega) (by omega)
    simp only [if_neg z, rfs_0, Bool.false_eq_true, if_false, ref_f, zI_if, tb, c_restore hw (show S < 4 by omega) e1 e2]
    have p : ms_saved (ms_refusal_s y 0) - (1 : Int32) = nI S := by
      rw [show ms_saved (ms_refusal_s y 0) = nI (S + 1) from hS]; exact nI_pred S
    rw [p]
    refine ⟨nI S, _, ms_now_s (ms_saved_s (ms_refusal_s y 0) (nI S)) (cpP (ms_now y) (fun i => ms_past y (596 * S + i)) 0 596), rfl, ?_, rfl, ?_, ⟨S, rfl, (w + 3) % 4, Nat.mod_lt _ (by decide), by omega, rfl, rfl, ?_⟩, ht, hr⟩
    · have e0 : (((0 : Int32), ms_saved_s (ms_refusal_s y 0) (nI S)) : Int32 × MS) = (fun i => (nI i, ms_now_s (ms_saved_s (ms_refusal_s y 0) (nI S)) (cpP (ms_now y) (fun i => ms_past y (596 * S + i)) 0 i))) 0 := by
        have : cpP (ms_now y) (fun i => ms_past y (596 * S + i)) 0 0 = ms_now y := by
          funext m; unfold cpP; rw [if_neg (by omega)]
        simp only [this]; rfl
      rw [e0]
      refine Eq.trans (if_pos rfl) ?_
      refine lp_run (fun i => (nI i, ms_now_s (ms_saved_s (ms_refusal_s y 0) (nI S)) (cpP (ms_now y) (fun i => ms_past y (596 * S + i)) 0 i))) 596 ?_ ?_ 4000 (by omega)
      · intro i hi kk
        unfold M_X7_undo_33s
        have g : ¬ (596 : Int32) ≤ nI i := nI_ge (a := i) (b := 596) hi (by omega)
        have e3 : (596 : Int32) * ms_saved (ms_now_s (ms_saved_s (ms_refusal_s y 0) (nI S)) (cpP (ms_now y) (fun i => ms_past y (596 * S + i)) 0 i)) + nI i = nI (596 * S + i) := by
          show (596 : Int32) * nI S + nI i = _
          rw [show (596 : Int32) = nI 596 from rfl, pk_mul, nI_add]
        have a1 : ald 2384 (ms_past (ms_now_s (ms_saved_s (ms_refusal_s y 0) (nI S)) (cpP (ms_now y) (fun i => ms_past y (596 * S + i)) 0 i))) (nI (596 * S + i)) = some (ms_past y (596 * S + i)) := ald_nI (by omega) (by omega)
        have a2 : ast 596 (ms_now (ms_now_s (ms_saved_s (ms_refusal_s y 0) (nI S)) (cpP (ms_now y) (fun i => ms_past y (596 * S + i)) 0 i))) (nI i) (ms_past y (596 * S + i)) = some (cpP (ms_now y) (fun i => ms_past y (596 * S + i)) 0 (i + 1)) := by
          rw [ast_nI (by omega) (by omega)]
          have := cpP_s (p := ms_now y) (f := fun i => ms_past y (596 * S + i)) (b := 0) (j := i)
          rw [Nat.zero_add] at this
          exact congrArg some this
        simp only [g, if_false, e3, a1, ob_some, a2, tb, nI_1]
        rfl
      · intro kk
        unfold M_X7_undo_33s
        have g : (596 : Int32) ≤ nI 596 := by decide
        simp only [g, if_true]
        rfl
    · have := hk S (by omega)
      rw [show (w + 9 + S - (S + 1)) % 4 = w by omega] at this
      refine (become_ok (x := ss_drv x) this).rows fun i hi => ?_
      show cpP (ms_now y) (fun i => ms_past y (596 * S + i)) 0 596 i = _
      unfold cpP
      rw [if_pos (by omega)]
      rfl
    · intro k hk2
      have := hk k (by omega)
      rw [show (w + 9 + k - (S + 1)) % 4 = ((w + 3) % 4 + 9 + k - S) % 4 by omega] at this
      exact this
