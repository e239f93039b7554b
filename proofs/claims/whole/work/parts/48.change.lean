/-! rounds of updates: how often, and what comes of it -/
def zDv : Type := List Int × List (Int × Int)
def updR (rnd : List Int × List (Int × Int) → (List Int × List (Int × Int)) × Bool) : Nat → Nat → List Int × List (Int × Int) → Int × (List Int × List (Int × Int))
  | 0, _, v => (-1, v)
  | n + 1, k, v => if (rnd v).2 = true then updR rnd n (k + 1) (rnd v).1 else ((k : Int), (rnd v).1)
section CHG
variable {G : zG} {d : Nat} {Q : Option zV → zHp → Prop} {h : zHp} {rnd : List Int × List (Int × Int) → (List Int × List (Int × Int)) × Bool} {J : zHp → Prop}
theorem sp_endChange {fo : Int} (hd : 7 ≤ d) (hJ : J h) (hJS : ∀ g, J g → zSh g)
    (hR : ∀ g, J g → ∀ Q' : Option zV → zHp → Prop, (∀ g', J g' → dv g' 8 = (rnd (dv g 8)).1 → Q' (some (vI (if (rnd (dv g 8)).2 = true then 1 else 0))) g') → wpN G (d - 1) M_X10_updateRound 0 (zar 0 [vR 1]) [] g Q')
    (kC : ∀ (g : zHp) (n : Int), J g → ((fo = 0 ∧ n = 0 ∧ g = h) ∨ (fo ≠ 0 ∧ updR rnd 8 0 (dv h 8) = (n, dv g 8) ∧ 0 ≤ n ∧ n < 8)) → wpN G (d - 1) M_X4_commit 0 (zar 0 [vR 13]) [] g (qV (fun h4 => zSh h4 ∧ Q (some (vI n)) h4)))
    (kT : ∀ g, J g → fo ≠ 0 → (updR rnd 8 0 (dv h 8)).1 = -1 → wpN G (d - 1) M_X4_takeBack 0 (zar 0 [vR 13]) [] g (qV (fun h4 => zSh h4 ∧ Q (some (vI (-1005))) h4))) :
    wpN G d M_X10_endChange 0 (zar 0 [vR 1, vI fo]) [] h Q := by
  have loop : ∀ (n y : Nat) (g : zHp), y + n = 8 → J g → fo ≠ 0 → updR rnd n y (dv g 8) = updR rnd 8 0 (dv h 8) → wpN G d M_X10_endChange 2 [(0, vR 1), (1, vI fo), (2, vI (y : Int))] [] g Q := by
    intro n
    induction n with
    | zero =>
      intro y g hy jg hf e
      rw [updR] at e
      refine vc_X10_endChange_2 fo y g (hJS g jg) hd (fun _ _ _ => False) (fun _ _ _ q => q.elim) ⟨fun c => absurd c hf, fun c => ⟨fun c1 => ⟨fun c2 => by omega, fun c2 => kT g jg hf (by rw [← e])⟩, fun c1 => by omega⟩⟩
    | succ n ih =>
      intro y g hy jg hf e
      rw [updR] at e
      refine vc_X10_endChange_2 fo y g (hJS g jg) hd (fun y1 y2 g' => y1 = fo ∧ y2 = ((y + 1 : Nat) : Int) ∧ J g' ∧ updR rnd n (y + 1) (dv g' 8) = updR rnd 8 0 (dv h 8)) ?_ ⟨fun c => absurd c hf, fun c => ⟨fun c1 => by omega, fun c1 => hR g jg _ (fun g' jg' eg' => qI_i ⟨hJS g' jg', fun z => ⟨fun c2 => kC g' y jg' (Or.inr ⟨hf, ?_, by omega, by omega⟩), fun c2 => by omega⟩, fun z => ⟨by omega, fun x ex _ => ⟨rfl, by omega, jg', ?_⟩⟩⟩)⟩⟩
      · rintro _ _ g' ⟨q0, q1, q2, q3⟩
        rw [q0, q1]
        exact ih (y + 1) g' (by omega) q2 hf q3
      · have nz : ¬ (rnd (dv g 8)).2 = true := fun w => by rw [if_pos w] at z; omega
        rw [if_neg nz] at e
        rw [← e, eg']
      · have nz : (rnd (dv g 8)).2 = true := by
          by_cases w : (rnd (dv g 8)).2 = true
          · exact w
          · rw [if_neg w] at z; exact absurd rfl z
        rw [if_pos nz] at e
        rw [eg']
        exact e
  refine vc_X10_endChange_0 fo h (hJS h hJ) hd (fun y1 y2 g => y1 = fo ∧ y2 = ((0 : Nat) : Int) ∧ g = h) ?_ (fun _ => ⟨rfl, rfl, rfl⟩)
  rintro _ _ _ ⟨q0, q1, q2⟩
  rw [q0, q1, q2]
  by_cases hf : fo = 0
  · refine vc_X10_endChange_2 fo _ h (hJS h hJ) hd (fun _ _ _ => False) (fun _ _ _ q => q.elim) ⟨fun c => ⟨fun c2 => kC h _ hJ (Or.inl ⟨hf, rfl, rfl⟩), fun c2 => by omega⟩, fun c => absurd hf c⟩
  · exact loop 8 0 h rfl hJ hf rfl
theorem sp_updates (hd : 6 ≤ d) (hJ : J h) (hJS : ∀ g, J g → zSh g)
    (hR : ∀ g, J g → ∀ Q' : Option zV → zHp → Prop, (∀ g', J g' → mv g' 344 0 = (rnd (mv g 344 0)).1 → Q' (some (vI (if (rnd (mv g 344 0)).2 = true then 1 else 0))) g') → wpN G (d - 1) M_X11_rounds 0 (zar 0 [vR 343]) [] g Q')
    (k : ∀ g r, J g → updR rnd 8 0 (mv h 344 0) = (r, mv g 344 0) → Q (some (vI r)) g) : wpN G d M_X11_updates 0 (zar 0 [vR 343]) [] h Q := by
  have loop : ∀ (n y : Nat) (g : zHp), y + n = 8 → J g → updR rnd n y (mv g 344 0) = updR rnd 8 0 (mv h 344 0) → wpN G d M_X11_updates 2 [(0, vR 343), (1, vI (y : Int))] [] g Q := by
    intro n
    induction n with
    | zero =>
      intro y g hy jg e
      rw [updR] at e
      refine vc_X11_updates_2 y g (hJS g jg) hd (fun _ _ => False) (fun _ _ q => q.elim) ⟨fun c => k g _ jg e.symm, fun c => by omega⟩
    | succ n ih =>
      intro y g hy jg e
      rw [updR] at e
      refine vc_X11_updates_2 y g (hJS g jg) hd (fun y1 g' => y1 = ((y + 1 : Nat) : Int) ∧ J g' ∧ updR rnd n (y + 1) (mv g' 344 0) = updR rnd 8 0 (mv h 344 0)) ?_ ⟨fun c => by omega, fun c => hR g jg _ (fun g' jg' eg' => qI_i ⟨hJS g' jg', fun z => ⟨by omega, fun x ex _ => ⟨by omega, jg', ?_⟩⟩, fun z => k g' _ jg' ?_⟩)⟩
      · rintro _ g' ⟨q1, q2, q3⟩
        rw [q1]
        exact ih (y + 1) g' (by omega) q2 q3
      · have nz : (rnd (mv g 344 0)).2 = true := by
          by_cases w : (rnd (mv g 344 0)).2 = true
          · exact w
          · rw [if_neg w] at z; exact absurd rfl z
        rw [if_pos nz] at e
        rw [eg']
        exact e
      · have nz : ¬ (rnd (mv g 344 0)).2 = true := fun w => by rw [if_pos w] at z; omega
        rw [if_neg nz] at e
        rw [← e, eg']
  refine vc_X11_updates_0 h (hJS h hJ) hd (fun y1 g => y1 = ((0 : Nat) : Int) ∧ g = h) ?_ (fun _ => ⟨rfl, rfl⟩)
  rintro _ _ ⟨q0, q1⟩
  rw [q0, q1]
  exact loop 8 0 h rfl hJ rfl
end CHG
