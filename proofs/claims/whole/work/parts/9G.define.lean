/-! a template is defined: as a value -/
noncomputable def rTd (t : List Int) : List (List Int) := @dite _ (∃ T, pDn t (bl t 0, ([], [])) T) (Classical.propDecidable _) (fun e => Classical.choose e) (fun _ => [])
theorem rTd_d {t : List Int} {T : List (List Int)} (h : pDn t (bl t 0, ([], [])) T) : rTd t = T := by
  unfold rTd
  rw [dif_pos ⟨T, h⟩]
  exact pDn_det (Classical.choose_spec (⟨T, h⟩ : ∃ T, pDn t (bl t 0, ([], [])) T)) h
/-- an overlay of the document uses template t -/
def uS (s : zSt) (t : Int) : Prop := ∃ o : Nat, o < 4 ∧ (ovA (sD s) o).1 = t
def setT (s : zSt) (t : Nat) (T : List (List Int)) : zSt := mkS [] (sCl s) (sMk s) (sD s) (sPa s) (sFu s) (sFo s) (fun u => if u = t then T else sTs s u)
noncomputable def rDef (s : zSt) (t : Int) : Int × zSt := if 0 ≤ t ∧ t ≤ 3 then cI (¬ uS s t ∧ ∃ T, pDn (sTx s) (bl (sTx s) 0, ([], [])) T) (((rTd (sTx s)).length : Int), setT s t.toNat (rTd (sTx s))) (-1002, s) else (-1001, s)
theorem rDef_y {s : zSt} {t : Int} {T : List (List Int)} (ht : 0 ≤ t ∧ t ≤ 3) (nu : ¬ uS s t) (dn : pDn (sTx s) (bl (sTx s) 0, ([], [])) T) : rDef s t = (((T.length : Nat) : Int), setT s t.toNat T) := by
  unfold rDef
  rw [if_pos ht, cI_p ⟨nu, T, dn⟩, rTd_d dn]
theorem rDef_u {s : zSt} {t : Int} (ht : 0 ≤ t ∧ t ≤ 3) (u : uS s t) : rDef s t = (-1002, s) := by
  unfold rDef
  rw [if_pos ht, cI_n (fun w => w.1 u)]
theorem rDef_f {s : zSt} {t : Int} {f : Nat} (ht : 0 ≤ t ∧ t ≤ 3) (fl : pFl (sTx s) (bl (sTx s) 0, ([], [])) f) : rDef s t = (-1002, s) := by
  unfold rDef
  rw [if_pos ht, cI_n (fun ⟨_, _, dn⟩ => pFD_det fl dn)]
theorem rDef_n {s : zSt} {t : Int} (ht : ¬ (0 ≤ t ∧ t ≤ 3)) : rDef s t = (-1001, s) := by
  unfold rDef
  rw [if_neg ht]
