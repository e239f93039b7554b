/-! both sides hold one state: a call of one leaves the other's -/
theorem XS_m {h g : zHp} {s : zSt} (F : mcF h g) (hS : zSh g) (x : XS h s) : XS g s :=
  XS_hi (P := fun b => 343 ≤ b) (fun b hb => F b (by omega)) (fun b hb w => by omega) hS x
/-- ints and longs of one heap, references of another -/
def hMix (h g : zHp) : zHp := (g.1, g.2.1, h.2.2)
theorem hMix_F {h g : zHp} (F : xcF h g) : zF4 (fun b _ => b < 343) h (hMix h g) :=
  ⟨fun b j hb => ⟨(F b (by omega)).1 j, (F b (by omega)).2.1 j⟩, fun _ _ => rfl⟩
theorem MS_x {h g : zHp} {s : zSt} (F : xcF h g) (hS : zSh g) (x : MS h s) : MS g s := by
  have y : MS (hMix h g) s := MS_F (hMix_F F) (fun j _ w => by omega) (fun b j hb w => by omega) x
  obtain ⟨⟨_, y1, y2, y3, y4, y5, y6⟩, y7⟩ := y
  exact ⟨⟨hS, y1, y2, y3, y4, y5, y6⟩, y7⟩
/-- both hold s -/
def BS (h : zHp) (s : zSt) : Prop := XS h s ∧ MS h s
theorem BS_x {h g : zHp} {s s' : zSt} (b : BS h s) (x : XS g s') (F : xcF h g) : XS g s' ∧ MS g s := ⟨x, MS_x F x.1.1 b.2⟩
theorem BS_m {h g : zHp} {s s' : zSt} (x : XS h s') (m : MS g s') (F : mcF h g) : BS g s' := ⟨XS_m F m.1.1 x, m⟩
