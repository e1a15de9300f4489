/-! PART 84: the law at its start -/
theorem start_rel : SRel ss0 ms0 := by
  have hz : ∀ i, i ≠ 2 → i ≠ 20 → i ≠ 28 → ms_now ms0 i = 0 := by
    intro i h1 h2 h3
    show upd (upd (upd (fun _ => 0) 2 (-1)) 20 1) 28 1 i = 0
    rw [pk_un h3, pk_un h2, pk_un h1]
  have hb : ∀ o, mb 0 o = false := mb_0
  refine ⟨⟨0, 0, ⟨hz 0 (by decide) (by decide) (by decide), hz 1 (by decide) (by decide) (by decide), rfl, by decide, ?_, hz 3 (by decide) (by decide) (by decide), fun b hb => hz _ (by omega) (by omega) (by omega), fun i hi => hz _ (by omega) (by omega) (by omega), fun k hk => ?_⟩, ⟨fun o ho => absurd ho (by omega), Or.inl rfl, 0, by decide, rfl⟩, rfl, by decide⟩, ⟨0, rfl, 0, by decide, by decide, rfl, rfl, fun k hk => absurd hk (by omega)⟩, ⟨0, by decide, rfl, rfl, fun i hi => absurd hi (by omega)⟩, rfl⟩
  · show upd (upd (upd (fun _ => 0) 2 (-1)) 20 1) 28 1 2 = -1
    rw [pk_un (by decide), pk_un (by decide)]
    exact pk_us
  · rcases (show k = 0 ∨ k = 1 by omega) with rfl | rfl
    · refine ⟨?_, hz _ (by decide) (by decide) (by decide), hz _ (by decide) (by decide) (by decide), hz _ (by decide) (by decide) (by decide), hz _ (by decide) (by decide) (by decide), hz _ (by decide) (by decide) (by decide), hz _ (by decide) (by decide) (by decide), hz _ (by decide) (by decide) (by decide), fun o ho => absurd ho (by omega), fun o _ _ => mb_0 o⟩
      show upd (upd (upd (fun _ => 0) 2 (-1)) 20 1) 28 1 20 = zI true
      rw [pk_un (by decide)]
      exact pk_us
    · refine ⟨?_, hz _ (by decide) (by decide) (by decide), hz _ (by decide) (by decide) (by decide), hz _ (by decide) (by decide) (by decide), hz _ (by decide) (by decide) (by decide), hz _ (by decide) (by decide) (by decide), hz _ (by decide) (by decide) (by decide), hz _ (by decide) (by decide) (by decide), fun o ho => absurd ho (by omega), fun o _ _ => mb_0 o⟩
      show upd (upd (upd (fun _ => 0) 2 (-1)) 20 1) 28 1 28 = zI true
      exact pk_us
theorem law_true (xs : Nat → Int32) (n : Nat) : M_lawL xs n 0 ss0 ms0 (fun _ => 0) = some () := law_ok xs n 0 ss0 ms0 _ start_rel
