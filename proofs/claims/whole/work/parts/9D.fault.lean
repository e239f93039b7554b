/-! the fault of a template's text, as a value -/
noncomputable def rTf (t : List Int) : Int := @dite Int (∃ f : Nat, pFl t (bl t 0, ([], [])) f) (Classical.propDecidable _) (fun e => ((Classical.choose e : Nat) : Int)) (fun _ => -1009)
theorem rTf_f {t : List Int} {f : Nat} (h : pFl t (bl t 0, ([], [])) f) : rTf t = (f : Int) := by
  unfold rTf
  rw [dif_pos ⟨f, h⟩, pFl_det (Classical.choose_spec (⟨f, h⟩ : ∃ f : Nat, pFl t (bl t 0, ([], [])) f)) h]
theorem rTf_d {t T} (h : pDn t (bl t 0, ([], [])) T) : rTf t = -1009 := by
  unfold rTf
  rw [dif_neg (fun ⟨f, e⟩ => pFD_det e h)]
theorem ztmq_all : ∀ a, a < 370 → zTAU a = (108, 2) → (a - 81) % 26 = 0 := by decide +kernel
section TFAULT
variable {G : zG} {d : Nat} {Q : Option zV → zHp → Prop} {h : zHp} {s : zSt}
theorem MS_pr {h' : zHp} (F : zF4 mPr h h') (x : MS h s) (mt : mTs h' (sTs s)) : MS h' s ∧ mcF h h' := by
  have p343 : ∀ j, j ≤ 12 → ¬ mPr 343 j := fun j hj => by unfold mPr; omega
  have pb : ∀ b j, (344 ≤ b ∧ b ≤ 350) → ¬ mPr b j := fun b j hb => by unfold mPr; omega
  obtain ⟨⟨x0, x1, ⟨x2, x3⟩, ⟨x4, x5⟩, ⟨x6, x7⟩, x8, x9⟩, xh⟩ := x
  have t := mt_F F (p343 12 (by omega)) (fun j => pb 350 j (by omega)) x3
  have c := mc_F F (p343 8 (by omega)) (fun j => pb 348 j (by omega)) x5
  have m := mk_F F (p343 10 (by omega)) (fun j => pb 349 j (by omega)) x7
  exact ⟨⟨⟨F.Sh x0, x1, ⟨t.1.trans x2, t.2⟩, ⟨c.1.trans x4, c.2⟩, ⟨m.1.trans x6, m.2⟩, (F.I 343 6 (p343 6 (by omega))).trans x8, mt⟩, MH_F F (p343 2 (by omega)) (p343 4 (by omega)) (fun b j h1 h2 => pb b j (by omega)) xh⟩, mcF_4 F (fun b j hb => by unfold mPr; omega)⟩
end TFAULT
