/-! PART 12b: the words' facts, and the mirrors' words for them -/
abbrev wNum : List Int32 := [4, 4, 4, 2, 2, 1, 1, 2, 2, 1]
abbrev wKind : List Int32 := [0, 1, 2, 3, -1, -1, -1, -1, -1, -1]
abbrev wLen : List Nat := [3, 3, 4, 5, 6, 4, 5, 4, 5, 5]
abbrev wByt : List (List Int32) := [[112, 117, 116], [97, 100, 100], [99, 111, 112, 121], [102, 101, 110, 99, 101], [99, 97, 110, 99, 101, 108], [119, 97, 107, 101], [115, 108, 101, 101, 112], [119, 111, 114, 107], [100, 101, 108, 97, 121], [116, 105, 99, 107, 115]]
/-- the place of a word in WORDS -/
def chk10 (i : Int32) : Option Nat := if vpb i 10 = true then some i.toNatClampNeg else none
theorem chk10_some {i : Int32} {k : Nat} (h : chk10 i = some k) : k < 10 ∧ vp_in i 10 ∧ i.toNatClampNeg = k := by
  unfold chk10 at h
  split at h
  · next q =>
    have q1 := vpb_in.mp q
    have e := Option.some.inj h
    obtain ⟨j, hj, rfl⟩ := vp_in_of q1 (by decide)
    rw [nI_clamp (by omega)] at e
    subst e
    exact ⟨hj, q1, nI_clamp (by omega)⟩
  · cases h
def chkE (k : Nat) : Option Unit := if k < 10 then some () else none
theorem chkE_some {k : Nat} {u : Unit} (h : chkE k = some u) : k < 10 := by
  unfold chkE at h
  split at h
  · next q => exact q
  · cases h
/-- charAt of a word's text -/
def chA (k : Nat) (i : Int32) : Option Int32 := if vpb i (wLen.getD k 0) = true then some ((wByt.getD k []).getD i.toNatClampNeg 0) else none
theorem chA_some {k : Nat} {i v : Int32} (h : chA k i = some v) : vp_in i (wLen.getD k 0) ∧ (wByt.getD k []).getD i.toNatClampNeg 0 = v := by
  unfold chA at h
  split at h
  · next q => exact ⟨vpb_in.mp q, Option.some.inj h⟩
  · cases h
/-- a fault that refuse throws for -/
def rfs (f : Int32) : Bool := decide (f = 1) || (decide (f = 2) || decide (f = 3))
