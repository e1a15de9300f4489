/-! PART 67: an order is called off -/
theorem lastI_cases (p : Nat → Bool) : ∀ n, lastI p n = -1 ∨ ∃ o, o < n ∧ lastI p n = nI o ∧ p o = true := by
  intro n
  induction n with
  | zero => exact Or.inl rfl
  | succ n ih =>
    unfold lastI
    cases hp : p n
    · rw [if_neg (by simp)]
      rcases ih with q | ⟨o, ho, e⟩
      · exact Or.inl q
      · exact Or.inr ⟨o, by omega, e⟩
    · rw [if_pos rfl]
      exact Or.inr ⟨n, by omega, rfl, hp⟩
theorem nI_nm1 {o : Nat} (h : o < 2 ^ 31) : ¬ nI o = (-1 : Int32) := fun q => nI_pos h (by rw [q]; decide)
theorem u_cancel {x : SS} {y : MS} (h : SRel x y) (p q : Int32) : AgU (fun c r => (c = 2 ∧ r = 1) ∨ (c = 3 ∧ r = 2)) x (M_X6_cancel x p q) (M_X7_cancel y p q) := by
  obtain ⟨n, t, hd, hI, ht, ht9⟩ := h.1
  have hn := hd.le
  have hcl := c_latest hd.ord hn p q
  have hrl := r_latest hd p q
  have ef : M_X3_faultOfCancelling (ss_drv x) p q = if (M_X6_isWithin p 0 3 && M_X6_isWithin q 0 31) = true then (if lastI (tagp (ss_drv x) p q) n = -1 then some 3 else if M_X3_fact (ss_drv x) (lastI (tagp (ss_drv x) p q) n) (5 : Int32) = 0 then some 0 else some 3) else some 2 := by
    unfold M_X3_faultOfCancelling M_X3_faultOfCancelling_31 M_X3_faultOfCancelling_36
    rw [fT, hcl, ob_some]
    cases (M_X6_isWithin p 0 3 && M_X6_isWithin q 0 31) <;> rfl
  unfold M_X6_cancel M_X7_cancel
  rw [ef, rT, zI_if, hrl]
  cases hw : (M_X6_isWithin p 0 3 && M_X6_isWithin q 0 31)
  · left
    exact ⟨2, 1, 0, ms_refusal_s y 1, rfl, rfl, rfl, Or.inl ⟨rfl, rfl⟩, h⟩
  · rcases lastI_cases (tagp (ss_drv x) p q) n with e | ⟨o, ho, e, -⟩
    · left
      refine ⟨3, 2, 0, ms_refusal_s y 2, ?_, ?_, rfl, Or.inr ⟨rfl, rfl⟩, h⟩
      · rw [if_pos (rfl : true = true), if_pos e, ob_some, if_pos rfs_3]
      · rw [if_pos (rfl : true = true), ob_some]
        unfold M_X7_cancel_20
        rw [if_pos e]
        rfl
    · have ho40 : o < 40 := by omega
      have e5 : M_X3_fact (ss_drv x) (nI o) (5 : Int32) = fc (ss_drv x) o 5 := c_fact _ (w := 5) ho40 (by decide)
      have q5 : M_X7_of y (nI o) (5 : Int32) = some (fc (ss_drv x) o 5) := r_of' (w := 5) hd ho40 (by decide)
      rw [e, e5, if_neg (nI_nm1 (by omega)), if_pos (rfl : true = true), if_pos (rfl : true = true), ob_some]
      unfold M_X7_cancel_20
      rw [if_neg (nI_nm1 (by omega)), q5, ob_some]
      by_cases z : fc (ss_drv x) o 5 = 0
      · right
        obtain ⟨Q, T, e1, h1⟩ := save_ok (y := ms_refusal_s y 0) h
        have r1 : DRel (dF (ss_drv x) o 5 3) (upd (ms_now y) (116 + 12 * o + 5) 3) n := hd.dF ho40 (by decide)
        have i1 : DInv (dF (ss_drv x) o 5 3) n := hI.next (fun o' w _ hw => by rw [fc_dF (by decide) (by omega), if_neg (by omega)]) (fun o' ho' => by
          rw [fc_dF (by decide) (by omega)]
          by_cases z2 : o' = o
          · rw [if_pos ⟨z2, rfl⟩]; exact ⟨3, by decide, rfl⟩
          · rw [if_neg (by omega)]; exact (hI.1 o' ho').2.2.2) hI.2.1 rfl
        have hk : DOK (dF (ss_drv x) o 5 3) (upd (ms_now y) (116 + 12 * o + 5) 3) := ⟨n, t, r1, i1, ht, ht9⟩
        have a1 : M_X7_put (ms_saved_s (ms_past_s (ms_refusal_s y 0) Q) T) (nI o) (5 : Int32) (3 : Int32) = some (ms_now_s (ms_saved_s (ms_past_s (ms_refusal_s y 0) Q) T) (upd (ms_now y) (116 + 12 * o + 5) 3)) := r_put _ (w := 5) ho40 (by decide)
        have c1 : M_X3_setFact (ss_drv x) (nI o) (5 : Int32) (3 : Int32) = dF (ss_drv x) o 5 3 := c_setFact _ (w := 5) ho40 (by decide) 3
        refine ⟨nI o, ss_drv_s (ss_his_s x (M_X4_save (ss_his x) (ss_drv x))) (dF (ss_drv x) o 5 3), ms_now_s (ms_saved_s (ms_past_s (ms_refusal_s y 0) Q) T) (upd (ms_now y) (116 + 12 * o + 5) 3), ?_, ?_, rfl, h1.drv hk⟩
        · rw [if_pos z, ob_some, if_neg (by rw [rfs_0]; decide)]
          unfold M_X3_callOff
          simp only [tb]
          rw [show ss_drv (ss_his_s x (M_X4_save (ss_his x) (ss_drv x))) = ss_drv x from rfl, hcl, ob_some, e, c1, ob_some]
        · rw [if_pos z]
          unfold M_X7_cancel_43 M_X7_cancel_64
          rw [zI_if, zI_if, if_pos (rfl : true = true), if_pos (rfl : true = true), ref_0]
          simp only [tb]
          refine Eq.trans (if_pos (show zI false = 0 from rfl)) ?_
          rw [e1, ob_some, a1, ob_some]
      · left
        refine ⟨3, 2, 0, ms_refusal_s y 2, ?_, ?_, rfl, Or.inr ⟨rfl, rfl⟩, h⟩
        · rw [if_neg z, ob_some, if_pos rfs_3]
        · rw [if_neg z]
          rfl
