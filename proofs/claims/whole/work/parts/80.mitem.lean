/-! reading a template: checks and integers, by the model -/
def mCB (G : zG) (d : Nat) (Q : Option zV → zHp → Prop) (p1 : Int) (h17 : zHp) : Prop := (wpN G (d - 1) M_X11_expects 0 (zar 0 [vR 343, vI 40]) [] h17 (qV (fun h21 => zSh h21 ∧ (((gI h21 343 16) ≠ (-1009) → (wpN G (d - 1) M_X11_expects 0 (zar 0 [vR 343, vI 44]) [] h21 (qV (fun h26 => zSh h26 ∧ (((gI h26 343 16) ≠ (-1009) → (wpN G (d - 1) M_X11_expects 0 (zar 0 [vR 343, vI 41]) [] h26 (qV (fun h32 => zSh h32 ∧ (wpN G (d - 1) M_X11_writes 0 (zar 0 [vR 343, vI p1, vI 11, vI 0]) [] h32 (qV (fun h36 => zSh h36 ∧ (wpN G (d - 1) M_X11_writes 0 (zar 0 [vR 343, vI p1, vI 12, vI 0]) [] h36 (qV (fun h40 => zSh h40 ∧ Q none h40)))))))))) ∧ ((gI h26 343 16) = (-1009) → (wpN G (d - 1) M_X11_siblingNamed 0 (zar 0 [vR 343, vI p1]) [] h26 (qI (fun z43 h44 => zSh h44 ∧ ((0 ≤ z43 → (wpN G (d - 1) M_X11_expects 0 (zar 0 [vR 343, vI 41]) [] h44 (qV (fun h49 => zSh h49 ∧ (wpN G (d - 1) M_X11_writes 0 (zar 0 [vR 343, vI p1, vI 11, vI 0]) [] h49 (qV (fun h53 => zSh h53 ∧ (wpN G (d - 1) M_X11_writes 0 (zar 0 [vR 343, vI p1, vI 12, vI z43]) [] h53 (qV (fun h57 => zSh h57 ∧ Q none h57)))))))))) ∧ (z43 < 0 → (wpN G (d - 1) M_X11_faults 0 (zar 0 [vR 343, vI (gI h44 343 18)]) [] h44 (qV (fun h61 => zSh h61 ∧ (wpN G (d - 1) M_X11_expects 0 (zar 0 [vR 343, vI 41]) [] h61 (qV (fun h65 => zSh h65 ∧ (wpN G (d - 1) M_X11_writes 0 (zar 0 [vR 343, vI p1, vI 11, vI 0]) [] h65 (qV (fun h69 => zSh h69 ∧ (wpN G (d - 1) M_X11_writes 0 (zar 0 [vR 343, vI p1, vI 12, vI z43]) [] h69 (qV (fun h73 => zSh h73 ∧ Q none h73))))))))))))))))))))))) ∧ ((gI h21 343 16) = (-1009) → (wpN G (d - 1) M_X11_siblingNamed 0 (zar 0 [vR 343, vI p1]) [] h21 (qI (fun z76 h77 => zSh h77 ∧ (wpN G (d - 1) M_X11_expects 0 (zar 0 [vR 343, vI 44]) [] h77 (qV (fun h81 => zSh h81 ∧ (((gI h81 343 16) ≠ (-1009) → ((z76 ≤ 0 → (wpN G (d - 1) M_X11_expects 0 (zar 0 [vR 343, vI 41]) [] h81 (qV (fun h87 => zSh h87 ∧ (wpN G (d - 1) M_X11_writes 0 (zar 0 [vR 343, vI p1, vI 11, vI z76]) [] h87 (qV (fun h91 => zSh h91 ∧ (wpN G (d - 1) M_X11_writes 0 (zar 0 [vR 343, vI p1, vI 12, vI 0]) [] h91 (qV (fun h95 => zSh h95 ∧ Q none h95)))))))))) ∧ (0 < z76 → (wpN G (d - 1) M_X11_faults 0 (zar 0 [vR 343, vI (gI h81 343 18)]) [] h81 (qV (fun h99 => zSh h99 ∧ (wpN G (d - 1) M_X11_expects 0 (zar 0 [vR 343, vI 41]) [] h99 (qV (fun h103 => zSh h103 ∧ (wpN G (d - 1) M_X11_writes 0 (zar 0 [vR 343, vI p1, vI 11, vI z76]) [] h103 (qV (fun h107 => zSh h107 ∧ (wpN G (d - 1) M_X11_writes 0 (zar 0 [vR 343, vI p1, vI 12, vI 0]) [] h107 (qV (fun h111 => zSh h111 ∧ Q none h111))))))))))))))) ∧ ((gI h81 343 16) = (-1009) → (wpN G (d - 1) M_X11_siblingNamed 0 (zar 0 [vR 343, vI p1]) [] h81 (qI (fun z114 h115 => zSh h115 ∧ ((z76 ≤ z114 → (wpN G (d - 1) M_X11_expects 0 (zar 0 [vR 343, vI 41]) [] h115 (qV (fun h120 => zSh h120 ∧ (wpN G (d - 1) M_X11_writes 0 (zar 0 [vR 343, vI p1, vI 11, vI z76]) [] h120 (qV (fun h124 => zSh h124 ∧ (wpN G (d - 1) M_X11_writes 0 (zar 0 [vR 343, vI p1, vI 12, vI z114]) [] h124 (qV (fun h128 => zSh h128 ∧ Q none h128)))))))))) ∧ (z114 < z76 → (wpN G (d - 1) M_X11_faults 0 (zar 0 [vR 343, vI (gI h115 343 18)]) [] h115 (qV (fun h132 => zSh h132 ∧ (wpN G (d - 1) M_X11_expects 0 (zar 0 [vR 343, vI 41]) [] h132 (qV (fun h136 => zSh h136 ∧ (wpN G (d - 1) M_X11_writes 0 (zar 0 [vR 343, vI p1, vI 11, vI z76]) [] h136 (qV (fun h140 => zSh h140 ∧ (wpN G (d - 1) M_X11_writes 0 (zar 0 [vR 343, vI p1, vI 12, vI z114]) [] h140 (qV (fun h144 => zSh h144 ∧ Q none h144))))))))))))))))))))))))))))))
def mIB1 (G : zG) (d : Nat) (Q : Option zV → zHp → Prop) (p1 : Int) (h11 : zHp) : Prop := ((-2147483648 ≤ (gI h11 343 15) + 1 ∧ (gI h11 343 15) + 1 ≤ 2147483647) ∧ (∀ h14 : zHp, h14 = sI h11 343 15 ((gI h11 343 15) + 1) → (wpN G (d - 1) M_X11_blanks 0 (zar 0 [vR 343]) [] h14 (qV (fun h17 => zSh h17 ∧ (wpN G (d - 1) M_X11_next 0 (zar 0 [vR 343]) [] h17 (qI (fun z20 h21 => zSh h21 ∧ ((-2147483648 ≤ z20 - 48 ∧ z20 - 48 ≤ 2147483647) ∧ (∀ x24 : Int, x24 = (z20 - 48) → ((x24 = 1 → ((-2147483648 ≤ (gI h21 343 15) + 1 ∧ (gI h21 343 15) + 1 ≤ 2147483647) ∧ (∀ h27 : zHp, h27 = sI h21 343 15 ((gI h21 343 15) + 1) → (wpN G (d - 1) M_X11_blanks 0 (zar 0 [vR 343]) [] h27 (qV (fun h30 => zSh h30 ∧ (wpN G (d - 1) M_X11_writes 0 (zar 0 [vR 343, vI p1, vI 4, vI x24]) [] h30 (qV (fun h34 => zSh h34 ∧ (wpN G (d - 1) M_X11_takes 0 (zar 0 [vR 343, vI 60]) [] h34 (qI (fun z37 h38 => zSh h38 ∧ ((z37 = 0 → (wpN G (d - 1) M_X11_writes 0 (zar 0 [vR 343, vI p1, vI 6, vI 0]) [] h38 (qV (fun h43 => zSh h43 ∧ (wpN G (d - 1) M_X11_readsCount 0 (zar 0 [vR 343, vI p1]) [] h43 (qV (fun h47 => zSh h47 ∧ Q none h47))))))) ∧ (z37 ≠ 0 → (wpN G (d - 1) M_X11_writes 0 (zar 0 [vR 343, vI p1, vI 6, vI 1]) [] h38 (qV (fun h51 => zSh h51 ∧ (wpN G (d - 1) M_X11_readsCount 0 (zar 0 [vR 343, vI p1]) [] h51 (qV (fun h55 => zSh h55 ∧ Q none h55)))))))))))))))))))) ∧ (x24 ≠ 1 → ((x24 = 2 → ((-2147483648 ≤ (gI h21 343 15) + 1 ∧ (gI h21 343 15) + 1 ≤ 2147483647) ∧ (∀ h59 : zHp, h59 = sI h21 343 15 ((gI h21 343 15) + 1) → (wpN G (d - 1) M_X11_blanks 0 (zar 0 [vR 343]) [] h59 (qV (fun h62 => zSh h62 ∧ (wpN G (d - 1) M_X11_writes 0 (zar 0 [vR 343, vI p1, vI 4, vI x24]) [] h62 (qV (fun h66 => zSh h66 ∧ (wpN G (d - 1) M_X11_takes 0 (zar 0 [vR 343, vI 60]) [] h66 (qI (fun z69 h70 => zSh h70 ∧ ((z69 = 0 → (wpN G (d - 1) M_X11_writes 0 (zar 0 [vR 343, vI p1, vI 6, vI 0]) [] h70 (qV (fun h75 => zSh h75 ∧ (wpN G (d - 1) M_X11_readsCount 0 (zar 0 [vR 343, vI p1]) [] h75 (qV (fun h79 => zSh h79 ∧ Q none h79))))))) ∧ (z69 ≠ 0 → (wpN G (d - 1) M_X11_writes 0 (zar 0 [vR 343, vI p1, vI 6, vI 1]) [] h70 (qV (fun h83 => zSh h83 ∧ (wpN G (d - 1) M_X11_readsCount 0 (zar 0 [vR 343, vI p1]) [] h83 (qV (fun h87 => zSh h87 ∧ Q none h87)))))))))))))))))))) ∧ (x24 ≠ 2 → ((x24 ≠ 4 → (wpN G (d - 1) M_X11_faults 0 (zar 0 [vR 343, vI (gI h21 343 15)]) [] h21 (qV (fun h92 => zSh h92 ∧ (wpN G (d - 1) M_X11_writes 0 (zar 0 [vR 343, vI p1, vI 4, vI x24]) [] h92 (qV (fun h96 => zSh h96 ∧ (wpN G (d - 1) M_X11_takes 0 (zar 0 [vR 343, vI 60]) [] h96 (qI (fun z99 h100 => zSh h100 ∧ ((z99 = 0 → (wpN G (d - 1) M_X11_writes 0 (zar 0 [vR 343, vI p1, vI 6, vI 0]) [] h100 (qV (fun h105 => zSh h105 ∧ (wpN G (d - 1) M_X11_readsCount 0 (zar 0 [vR 343, vI p1]) [] h105 (qV (fun h109 => zSh h109 ∧ Q none h109))))))) ∧ (z99 ≠ 0 → (wpN G (d - 1) M_X11_writes 0 (zar 0 [vR 343, vI p1, vI 6, vI 1]) [] h100 (qV (fun h113 => zSh h113 ∧ (wpN G (d - 1) M_X11_readsCount 0 (zar 0 [vR 343, vI p1]) [] h113 (qV (fun h117 => zSh h117 ∧ Q none h117)))))))))))))))))) ∧ (x24 = 4 → ((-2147483648 ≤ (gI h21 343 15) + 1 ∧ (gI h21 343 15) + 1 ≤ 2147483647) ∧ (∀ h120 : zHp, h120 = sI h21 343 15 ((gI h21 343 15) + 1) → (wpN G (d - 1) M_X11_blanks 0 (zar 0 [vR 343]) [] h120 (qV (fun h123 => zSh h123 ∧ (wpN G (d - 1) M_X11_writes 0 (zar 0 [vR 343, vI p1, vI 4, vI x24]) [] h123 (qV (fun h127 => zSh h127 ∧ (wpN G (d - 1) M_X11_takes 0 (zar 0 [vR 343, vI 60]) [] h127 (qI (fun z130 h131 => zSh h131 ∧ ((z130 = 0 → (wpN G (d - 1) M_X11_writes 0 (zar 0 [vR 343, vI p1, vI 6, vI 0]) [] h131 (qV (fun h136 => zSh h136 ∧ (wpN G (d - 1) M_X11_readsCount 0 (zar 0 [vR 343, vI p1]) [] h136 (qV (fun h140 => zSh h140 ∧ Q none h140))))))) ∧ (z130 ≠ 0 → (wpN G (d - 1) M_X11_writes 0 (zar 0 [vR 343, vI p1, vI 6, vI 1]) [] h131 (qV (fun h144 => zSh h144 ∧ (wpN G (d - 1) M_X11_readsCount 0 (zar 0 [vR 343, vI p1]) [] h144 (qV (fun h148 => zSh h148 ∧ Q none h148)))))))))))))))))))))))))))))))))))
def mIB2 (G : zG) (d : Nat) (Q : Option zV → zHp → Prop) (p1 x24 : Int) (h21 : zHp) : Prop := ((-2147483648 ≤ (gI h21 343 15) + 1 ∧ (gI h21 343 15) + 1 ≤ 2147483647) ∧ (∀ h27 : zHp, h27 = sI h21 343 15 ((gI h21 343 15) + 1) → (wpN G (d - 1) M_X11_blanks 0 (zar 0 [vR 343]) [] h27 (qV (fun h30 => zSh h30 ∧ (wpN G (d - 1) M_X11_writes 0 (zar 0 [vR 343, vI p1, vI 4, vI x24]) [] h30 (qV (fun h34 => zSh h34 ∧ (wpN G (d - 1) M_X11_takes 0 (zar 0 [vR 343, vI 60]) [] h34 (qI (fun z37 h38 => zSh h38 ∧ ((z37 = 0 → (wpN G (d - 1) M_X11_writes 0 (zar 0 [vR 343, vI p1, vI 6, vI 0]) [] h38 (qV (fun h43 => zSh h43 ∧ (wpN G (d - 1) M_X11_readsCount 0 (zar 0 [vR 343, vI p1]) [] h43 (qV (fun h47 => zSh h47 ∧ Q none h47))))))) ∧ (z37 ≠ 0 → (wpN G (d - 1) M_X11_writes 0 (zar 0 [vR 343, vI p1, vI 6, vI 1]) [] h38 (qV (fun h51 => zSh h51 ∧ (wpN G (d - 1) M_X11_readsCount 0 (zar 0 [vR 343, vI p1]) [] h51 (qV (fun h55 => zSh h55 ∧ Q none h55)))))))))))))))))))
def sCk : Nat → Prop := fun j => j = 0 ∨ j = 4 ∨ j = 10 ∨ j = 11 ∨ j = 12
def sIn : Nat → Prop := fun j => j = 0 ∨ j = 4 ∨ j = 5 ∨ j = 6 ∨ j = 7 ∨ j = 8
section MCHK
variable {G : zG} {d : Nat} {Q : Option zV → zHp → Prop} {h : zHp} {t : List Int} {p : Nat} {T : List (List Int)} {i : Nat} {q : Int}
theorem tg_byT (ht : byT t) (p : Nat) : -1 ≤ tg t p ∧ tg t p ≤ 127 := by
  by_cases w : p < t.length
  · have e : tg t p = t[p] := by
      unfold tg
      rw [List.getD_eq_getElem?_getD, List.getElem?_eq_getElem w]
      rfl
    have := ht t[p] (List.getElem_mem w)
    omega
  · rw [tg_out (by omega)]; omega
theorem sp_mcb {p0 : Nat} (hd : 4 ≤ d) (hS : zSh h) (x : mLv h t p) (nx : mNx h T i q) (e0 : bl t (p0 + 1) = p)
    (k1 : ∀ h' y, pChk t T q i p0 = .inr y → zSh h' → zF4 (mRi i sCk) h h' → mLv h' t y.1 → mi h' 4 i 11 = y.2.1 → mi h' 4 i 12 = y.2.2 → (∀ f, f < 14 → f ≠ 11 → f ≠ 12 → mi h' 4 i f = mi h 4 i f) → Q none h') (k0 : ∀ h' f, pChk t T q i p0 = .inl f → zSh h' → zF4 (mRi i sCk) h h' → mDd h' t f → Q none h') : mCB G d Q (i : Int) h := by
  have hi := nx.1
  -- dead to the end
  have fd : ∀ (g : zHp) (f : Nat) (v1 v2 : Int), pChk t T q i p0 = .inl f → zSh g → zF4 (mRi i sCk) h g → mDd g t f → wpN G (d - 1) M_X11_expects 0 (zar 0 [vR 343, vI 41]) [] g (qV (fun h32 => zSh h32 ∧ (wpN G (d - 1) M_X11_writes 0 (zar 0 [vR 343, vI (i : Int), vI 11, vI v1]) [] h32 (qV (fun h36 => zSh h36 ∧ (wpN G (d - 1) M_X11_writes 0 (zar 0 [vR 343, vI (i : Int), vI 12, vI v2]) [] h36 (qV (fun h40 => zSh h40 ∧ Q none h40)))))))) := by
    intro g f v1 v2 ef sg F dg
    refine sp_expectsD (by omega) sg dg (fun g2 s2 F2 d2 => qV_i ⟨s2, ?_⟩)
    refine sp_writes (f := 11) sCk s2 hi (by omega) (by unfold sCk; omega) (fun g3 s3 F3 v3 o3 b3 => qV_i ⟨s3, ?_⟩)
    refine sp_writes (f := 12) sCk s3 hi (by omega) (by unfold sCk; omega) (fun g4 s4 F4 v4 o4 b4 => qV_i ⟨s4, ?_⟩)
    exact k0 g4 f ef s4 (((F.tr (FSR F2)).tr F3).tr F4) (mDd_W F4 b4 (mDd_W F3 b3 d2))
  -- dead behind the first name
  have fd2 : ∀ (g : zHp) (f : Nat) (z : Int), pChk t T q i p0 = .inl f → zSh g → zF4 (mRi i sCk) h g → mDd g t f → ((z ≤ 0 → (wpN G (d - 1) M_X11_expects 0 (zar 0 [vR 343, vI 41]) [] g (qV (fun h87 => zSh h87 ∧ (wpN G (d - 1) M_X11_writes 0 (zar 0 [vR 343, vI (i : Int), vI 11, vI z]) [] h87 (qV (fun h91 => zSh h91 ∧ (wpN G (d - 1) M_X11_writes 0 (zar 0 [vR 343, vI (i : Int), vI 12, vI 0]) [] h91 (qV (fun h95 => zSh h95 ∧ Q none h95)))))))))) ∧ (0 < z → (wpN G (d - 1) M_X11_faults 0 (zar 0 [vR 343, vI (gI g 343 18)]) [] g (qV (fun h99 => zSh h99 ∧ (wpN G (d - 1) M_X11_expects 0 (zar 0 [vR 343, vI 41]) [] h99 (qV (fun h103 => zSh h103 ∧ (wpN G (d - 1) M_X11_writes 0 (zar 0 [vR 343, vI (i : Int), vI 11, vI z]) [] h103 (qV (fun h107 => zSh h107 ∧ (wpN G (d - 1) M_X11_writes 0 (zar 0 [vR 343, vI (i : Int), vI 12, vI 0]) [] h107 (qV (fun h111 => zSh h111 ∧ Q none h111)))))))))))))) := by
    intro g f z ef sg F dg
    exact ⟨fun _ => fd g f z 0 ef sg F dg, fun _ => sp_faultsD sg dg (fun g2 s2 F2 d2 => qV_i ⟨s2, fd g2 f z 0 ef s2 (F.tr (FSR F2)) d2⟩)⟩
  unfold mCB
  refine sp_expectsL (by omega) hS x (by omega) (fun h21 p1 e21 s21 F21 x21 => qV_i ⟨s21, fun w => absurd x21.2.2.2.2 w, fun _ => ?_⟩) (fun h21 f e21 s21 F21 d21 => qV_i ⟨s21, fun _ => ?_, fun w => by rw [d21.2.2.2] at w; omega⟩)
  · have nx21 := mNx_Sc F21 nx
    refine sp_sibNamedL (by omega) s21 x21 nx21 (fun h77 nm sb s77 F77 x77 e18 => qI_i ⟨s77, ?_⟩) (fun h77 z nb s77 F77 d77 => qI_i ⟨s77, ?_⟩)
    · have ey : pSb t T q i 0 p1 = .inr (bl t (p1 + 1), tSb T q i (tg t p1)) := by unfold pSb; rw [if_pos ⟨nm, sb, sb⟩]
      refine sp_expectsL (by omega) s77 x77 (by omega) (fun h81 p3 e81 s81 F81 x81 => qV_i ⟨s81, fun w => absurd x81.2.2.2.2 w, fun _ => ?_⟩) (fun h81 f e81 s81 F81 d81 => qV_i ⟨s81, fun _ => fd2 h81 f _ ?_ s81 (FSR ((F21.tr F77).tr F81)) d81, fun w => by rw [d81.2.2.2] at w; omega⟩)
      · have nx81 := mNx_Sc F81 (mNx_Sc F77 nx21)
        have FA : zF4 mSc4 h h81 := (F21.tr F77).tr F81
        refine sp_sibNamedL (by omega) s81 x81 nx81 (fun h115 nm2 sb2 s115 F115 x115 e182 => qI_i ⟨s115, fun le => ?_, fun lt => ?_⟩) (fun h115 z nb s115 F115 d115 => qI_i ⟨s115, fun le => ?_, fun lt => ?_⟩)
        · have ey2 : pSb t T q i (tSb T q i (tg t p1)) p3 = .inr (bl t (p3 + 1), tSb T q i (tg t p3)) := by unfold pSb; rw [if_pos ⟨nm2, sb2, le⟩]
          refine sp_expectsL (by omega) s115 x115 (by omega) (fun g2 p5 e5 s2 F2 x2 => qV_i ⟨s2, ?_⟩) (fun g2 f e5 s2 F2 d2 => qV_i ⟨s2, ?_⟩)
          · refine sp_writes (f := 11) sCk s2 hi (by omega) (by unfold sCk; omega) (fun g3 s3 F3 v3 o3 b3 => qV_i ⟨s3, ?_⟩)
            refine sp_writes (f := 12) sCk s3 hi (by omega) (by unfold sCk; omega) (fun g4 s4 F4 v4 o4 b4 => qV_i ⟨s4, ?_⟩)
            refine k1 g4 (p5, (tSb T q i (tg t p1), tSb T q i (tg t p3))) ?_ s4 (((FSR ((FA.tr F115).tr F2)).tr F3).tr F4) (mLv_W F4 b4 (mLv_W F3 b3 x2)) ?_ v4 (fun f hf n1 n2 => ?_)
            · unfold pChk; rw [e0, pB_inr e21, pB_inr ey, pB_inr e81, pB_inr ey2, pB_inr e5]
            · rw [o4 i 11 (by omega) (Or.inr (by omega)), v3]
            · rw [o4 i f hf (Or.inr n2), o3 i f hf (Or.inr n1), mi_Sc ((FA.tr F115).tr F2)]
          · refine sp_writes (f := 11) sCk s2 hi (by omega) (by unfold sCk; omega) (fun g3 s3 F3 v3 o3 b3 => qV_i ⟨s3, ?_⟩)
            refine sp_writes (f := 12) sCk s3 hi (by omega) (by unfold sCk; omega) (fun g4 s4 F4 v4 o4 b4 => qV_i ⟨s4, ?_⟩)
            refine k0 g4 f ?_ s4 (((FSR ((FA.tr F115).tr F2)).tr F3).tr F4) (mDd_W F4 b4 (mDd_W F3 b3 d2))
            unfold pChk; rw [e0, pB_inr e21, pB_inr ey, pB_inr e81, pB_inr ey2, pB_inl e5]
        · have ey2 : pSb t T q i (tSb T q i (tg t p1)) p3 = .inl p3 := by unfold pSb; rw [if_neg (fun w => by have := w.2.2; omega)]
          exact sp_faultsL s115 x115 e182 (fun g2 s2 F2 d2 => qV_i ⟨s2, fd g2 p3 _ _ (by unfold pChk; rw [e0, pB_inr e21, pB_inr ey, pB_inr e81, pB_inl ey2]) s2 (FSR ((FA.tr F115).tr F2)) d2⟩)
        · have ey2 : pSb t T q i (tSb T q i (tg t p1)) p3 = .inl p3 := by unfold pSb; rw [if_neg (fun w => nb ⟨w.1, w.2.1⟩)]
          exact fd h115 p3 _ _ (by unfold pChk; rw [e0, pB_inr e21, pB_inr ey, pB_inr e81, pB_inl ey2]) s115 (FSR (FA.tr F115)) d115
        · have ey2 : pSb t T q i (tSb T q i (tg t p1)) p3 = .inl p3 := by unfold pSb; rw [if_neg (fun w => nb ⟨w.1, w.2.1⟩)]
          exact sp_faultsD s115 d115 (fun g2 s2 F2 d2 => qV_i ⟨s2, fd g2 p3 _ _ (by unfold pChk; rw [e0, pB_inr e21, pB_inr ey, pB_inr e81, pB_inl ey2]) s2 (FSR ((FA.tr F115).tr F2)) d2⟩)
      · unfold pChk; rw [e0, pB_inr e21, pB_inr ey, pB_inl e81]
    · have ey : pSb t T q i 0 p1 = .inl p1 := by unfold pSb; rw [if_neg (fun w => nb ⟨w.1, w.2.1⟩)]
      refine sp_expectsD (by omega) s77 d77 (fun h81 s81 F81 d81 => qV_i ⟨s81, fun _ => fd2 h81 p1 _ ?_ s81 (FSR ((F21.tr F77).tr F81)) d81, fun w => by rw [d81.2.2.2] at w; omega⟩)
      unfold pChk; rw [e0, pB_inr e21, pB_inl ey]
  · refine sp_expectsD (by omega) s21 d21 (fun h26 s26 F26 d26 => qV_i ⟨s26, fun _ => fd h26 f 0 0 ?_ s26 (FSR (F21.tr F26)) d26, fun w => by rw [d26.2.2.2] at w; omega⟩)
    unfold pChk; rw [e0, pB_inl e21]
theorem sp_readsCheck {sort : Int} (hd : 4 ≤ d) (hS : zSh h) (x : mLv h t p) (hp : p < t.length) (nx : mNx h T i q)
    (k1 : ∀ h' y, pChk t T q i p = .inr y → zSh h' → zF4 (mRi i sCk) h h' → mLv h' t y.1 → mi h' 4 i 0 = 2 → mi h' 4 i 10 = sort → mi h' 4 i 4 = (if sort = 2 then 1 else 2) → mi h' 4 i 11 = y.2.1 → mi h' 4 i 12 = y.2.2 → Q none h') (k0 : ∀ h' f, pChk t T q i p = .inl f → zSh h' → zF4 (mRi i sCk) h h' → mDd h' t f → Q none h') : wpN G d M_X11_readsCheck 0 (zar 0 [vR 343, vI (i : Int), vI sort]) [] h Q := by
  have hi := nx.1
  have l := mt_len x.1 x.2.1
  refine vc_X11_readsCheck_0 i sort h hS hd ?_
  rw [x.2.2.2.1]
  refine ⟨by omega, fun h1 e1 => sp_stepL (q := 0) (by omega) hS x hp e1 (fun h4 s4 F4 x4 _ => qV_i ⟨s4, ?_⟩)⟩
  refine sp_writes (f := 0) sCk s4 hi (by omega) (by unfold sCk; omega) (fun h8 s8 F8 v8 o8 b8 => qV_i ⟨s8, ?_⟩)
  refine sp_writes (f := 10) sCk s8 hi (by omega) (by unfold sCk; omega) (fun h12 s12 F12 v12 o12 b12 => qV_i ⟨s12, ?_⟩)
  have body : ∀ h17, zSh h17 → zF4 (mRi i sCk) h12 h17 → mi h17 4 i 4 = (if sort = 2 then 1 else 2) → (∀ k g, g < 14 → (k ≠ i ∨ g ≠ 4) → mi h17 4 k g = mi h12 4 k g) → (∀ b j, b ≠ 351 → gI h17 b j = gI h12 b j) → mCB G d Q (i : Int) h17 := by
    intro h17 s17 F17 v17 o17 b17
    have FA : zF4 (mRi i sCk) h h17 := (((FSR F4).tr F8).tr F12).tr F17
    have x17 := mLv_W F17 b17 (mLv_W F12 b12 (mLv_W F8 b8 x4))
    refine sp_mcb hd s17 x17 (mNx_Ri FA (by unfold sCk; omega) nx) rfl (fun h' y ey s' F x' v11 v12' o => k1 h' y ey s' (FA.tr F) x' ?_ ?_ ?_ v11 v12') (fun h' f ef s' F d' => k0 h' f ef s' (FA.tr F) d')
    · rw [o 0 (by omega) (by omega) (by omega), o17 i 0 (by omega) (Or.inr (by omega)), o12 i 0 (by omega) (Or.inr (by omega)), v8]
    · rw [o 10 (by omega) (by omega) (by omega), o17 i 10 (by omega) (Or.inr (by omega)), v12]
    · rw [o 4 (by omega) (by omega) (by omega), v17]
  refine ⟨fun c => sp_writes (f := 4) sCk s12 hi (by omega) (by unfold sCk; omega) (fun h17 s17 F17 v17 o17 b17 => qV_i ⟨s17, body h17 s17 F17 (by rw [v17, if_neg c]) o17 b17⟩), fun c => sp_writes (f := 4) sCk s12 hi (by omega) (by unfold sCk; omega) (fun h17 s17 F17 v17 o17 b17 => qV_i ⟨s17, body h17 s17 F17 (by rw [v17, if_pos c]) o17 b17⟩)⟩
theorem sp_readsInt (ht : byT t) (hd : 6 ≤ d) (hS : zSh h) (x : mLv h t p) (hp : p < t.length) (nx : mNx h T i q) (e7 : mi h 4 i 7 = 0)
    (k1 : ∀ h' u y, pInt t p = .inr u → pCt t T q i u.1 = .inr y → zSh h' → zF4 (mRi i sIn) h h' → mLv h' t y.1 → mi h' 4 i 0 = 0 → mi h' 4 i 5 = (if tg t p = 105 then 1 else 0) → mi h' 4 i 4 = u.2.1 → mi h' 4 i 6 = u.2.2 → ctM h' i y.2 → Q none h')
    (k0 : ∀ h' f, (pInt t p = .inl f ∨ ∃ u, pInt t p = .inr u ∧ pCt t T q i u.1 = .inl f) → zSh h' → zF4 (mRi i sIn) h h' → mDd h' t f → Q none h') : wpN G d M_X11_readsInteger 0 (zar 0 [vR 343, vI (i : Int)]) [] h Q := by
  have hi := nx.1
  have l := mt_len x.1 x.2.1
  have up : ∀ {g g' : zHp}, zF4 (mRi i s78) g g' → zF4 (mRi i sIn) g g' := fun F => F.mono (fun b j w => by
    rcases w with w | ⟨w, f, w2, w3, w4⟩
    · exact Or.inl w
    · exact Or.inr ⟨w, f, w2, by unfold s78 at w3; unfold sIn; omega, w4⟩)
  refine vc_X11_readsInteger_0 i h hS hd ?_
  refine sp_writes (f := 0) sIn hS hi (by omega) (by unfold sIn; omega) (fun h2 s2 F2 v2 o2 b2 => qV_i ⟨s2, ?_⟩)
  have x2 := mLv_W F2 b2 x
  have body : ∀ h11, zSh h11 → zF4 (mRi i sIn) h2 h11 → mi h11 4 i 5 = (if tg t p = 105 then 1 else 0) → (∀ k g, g < 14 → (k ≠ i ∨ g ≠ 5) → mi h11 4 k g = mi h2 4 k g) → (∀ b j, b ≠ 351 → gI h11 b j = gI h2 b j) → mIB1 G d Q (i : Int) h11 := by
    intro h11 s11 F11 v11 o11 b11
    have FA : zF4 (mRi i sIn) h h11 := F2.tr F11
    have x11 := mLv_W F11 b11 x2
    unfold mIB1
    rw [x11.2.2.2.1]
    refine ⟨by omega, fun h14 e14 => sp_stepL (q := 0) (by omega) s11 x11 hp e14 (fun h17 s17 F17 x17 _ => qV_i ⟨s17, sp_nextL s17 x17 (qI_i ⟨s17, ?_⟩)⟩)⟩
    have FB : zF4 (mRi i sIn) h h17 := FA.tr (FSR F17)
    have b1 := x17.2.2.1
    have size : ∀ x24 : Int, x24 = tg t (bl t (p + 1)) - 48 → (x24 = 1 ∨ x24 = 2 ∨ x24 = 4) → mIB2 G d Q (i : Int) x24 h17 := by
      intro x24 e24 hz
      have hz' : tg t (bl t (p + 1)) = 49 ∨ tg t (bl t (p + 1)) = 50 ∨ tg t (bl t (p + 1)) = 52 := by omega
      unfold mIB2
      rw [x17.2.2.2.1]
      refine ⟨by omega, fun h27 e27 => sp_stepL (q := 0) (by omega) s17 x17 (tg_lt (by omega)) e27 (fun h30 s30 F30 x30 _ => qV_i ⟨s30, ?_⟩)⟩
      refine sp_writes (f := 4) sIn s30 hi (by omega) (by unfold sIn; omega) (fun h34 s34 F34 v34 o34 b34 => qV_i ⟨s34, ?_⟩)
      have x34 := mLv_W F34 b34 x30
      have FC : zF4 (mRi i sIn) h h34 := (FB.tr (FSR F30)).tr F34
      have fin : ∀ (g : zHp) (p4 : Nat) (lit : Int), zSh g → zF4 mSc4 h34 g → mLv g t p4 → pInt t p = .inr (p4, (x24, lit)) → wpN G (d - 1) M_X11_writes 0 (zar 0 [vR 343, vI (i : Int), vI 6, vI lit]) [] g (qV (fun h43 => zSh h43 ∧ (wpN G (d - 1) M_X11_readsCount 0 (zar 0 [vR 343, vI (i : Int)]) [] h43 (qV (fun h47 => zSh h47 ∧ Q none h47))))) := by
        intro g p4 lit sg Fg xg ei
        refine sp_writes (f := 6) sIn sg hi (by omega) (by unfold sIn; omega) (fun h43 s43 F43 v43 o43 b43 => qV_i ⟨s43, ?_⟩)
        have FD : zF4 (mRi i sIn) h h43 := (FC.tr (FSR Fg)).tr F43
        have x43 := mLv_W F43 b43 xg
        have old : ∀ f, f < 14 → f ≠ 6 → mi h43 4 i f = mi h34 4 i f := fun f hf n6 => by rw [o43 i f hf (Or.inr n6), mi_Sc Fg]
        have e7' : mi h43 4 i 7 = 0 := by rw [old 7 (by omega) (by omega), o34 i 7 (by omega) (Or.inr (by omega)), mi_Sc F30, mi_Sc F17, o11 i 7 (by omega) (Or.inr (by omega)), o2 i 7 (by omega) (Or.inr (by omega)), e7]
        refine sp_readsCountL (by omega) s43 x43 (mNx_Ri FD (by unfold sIn; omega) nx) e7' (fun h' y ey s' F x' ct => qV_i ⟨s', k1 h' _ y ei ey s' (FD.tr (up F)) x' ?_ ?_ ?_ ?_ ct⟩) (fun h' f ef s' F d' => qV_i ⟨s', k0 h' f (Or.inr ⟨_, ei, ef⟩) s' (FD.tr (up F)) d'⟩)
        · rw [mi_Ri F (by omega) (Or.inr (by unfold s78; omega)), old 0 (by omega) (by omega), o34 i 0 (by omega) (Or.inr (by omega)), mi_Sc F30, mi_Sc F17, o11 i 0 (by omega) (Or.inr (by omega)), v2]
        · rw [mi_Ri F (by omega) (Or.inr (by unfold s78; omega)), old 5 (by omega) (by omega), o34 i 5 (by omega) (Or.inr (by omega)), mi_Sc F30, mi_Sc F17, v11]
        · rw [mi_Ri F (by omega) (Or.inr (by unfold s78; omega)), old 4 (by omega) (by omega), v34]
        · rw [mi_Ri F (by omega) (Or.inr (by unfold s78; omega)), v43]
      refine sp_takesL (by omega) s34 x34 (by omega) (fun h38 p38 e38 c38 s38 F38 x38 _ => qI_i ⟨s38, fun w => absurd w (by omega), fun _ => ?_⟩) (fun e38 c38 => qI_i ⟨s34, fun _ => ?_, fun w => absurd rfl w⟩)
      · refine fin h38 p38 1 s38 F38 x38 ?_
        unfold pSg at e38
        rw [if_pos c38] at e38
        have := Sum.inr.inj e38
        unfold pInt
        rw [if_pos hz', if_pos c38, this, e24]
      · refine fin h34 _ 0 s34 zF4.rf x34 ?_
        unfold pInt
        rw [if_pos hz', if_neg c38, e24]
    refine ⟨?_, fun x24 e24 => ?_⟩
    · have := tg_byT ht (bl t (p + 1)); omega
    · have bad : ¬ (x24 = 1 ∨ x24 = 2 ∨ x24 = 4) → pInt t p = .inl (bl t (p + 1)) := fun nb => by unfold pInt; rw [if_neg (by omega)]
      refine ⟨fun c => size x24 e24 (Or.inl c), fun c => ⟨fun c2 => size x24 e24 (Or.inr (Or.inl c2)), fun c2 => ⟨fun c4 => ?_, fun c4 => size x24 e24 (Or.inr (Or.inr c4))⟩⟩⟩
      refine sp_faultsL s17 x17 x17.2.2.2.1 (fun h92 s92 F92 d92 => qV_i ⟨s92, ?_⟩)
      refine sp_writes (f := 4) sIn s92 hi (by omega) (by unfold sIn; omega) (fun h96 s96 F96 v96 o96 b96 => qV_i ⟨s96, ?_⟩)
      have d96 := mDd_W F96 b96 d92
      refine sp_takesD (by omega) s96 d96 (qI_i ⟨s96, fun _ => ?_, fun w => absurd rfl w⟩)
      refine sp_writes (f := 6) sIn s96 hi (by omega) (by unfold sIn; omega) (fun h105 s105 F105 v105 o105 b105 => qV_i ⟨s105, ?_⟩)
      have d105 := mDd_W F105 b105 d96
      exact sp_readsCountD (by omega) s105 d105 (qV_i ⟨s105, k0 h105 _ (Or.inl (bad (by omega))) s105 (((FB.tr (FSR F92)).tr F96).tr F105) d105⟩)
  refine sp_nextL s2 x2 (qI_i ⟨s2, fun c => sp_writes (f := 5) sIn s2 hi (by omega) (by unfold sIn; omega) (fun h11 s11 F11 v11 o11 b11 => qV_i ⟨s11, body h11 s11 F11 (by rw [v11, if_neg c]) o11 b11⟩), fun c => sp_writes (f := 5) sIn s2 hi (by omega) (by unfold sIn; omega) (fun h11 s11 F11 v11 o11 b11 => qV_i ⟨s11, body h11 s11 F11 (by rw [v11, if_pos c]) o11 b11⟩)⟩)
end MCHK
