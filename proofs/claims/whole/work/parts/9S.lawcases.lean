/-! the law's 36 cases -/
def Ml (nm : String) : zM := (⟨RL, nm, "([I)Z"⟩, code, 4, ret)
section LAWC
variable {b L : Nat} {xs : Nat → Int32} {G : zG} {R : Room} {Z : List Frame → Array Value → State → State → Prop} {nm : String} {h : zHp} {s : zSt} {i : Int}
theorem wS_V {X : Array Value → State → Prop} {M M' : zM} {pc idx d' a c kP : Nat} {ls : zLs} {st As stk : List zV} {Q' : Option zV → zHp → Prop} (vm : zVm M' kP c) (hlk : Cond.methodLink M.1.cls idx M'.1 ∈ zgw) (ht : zT 369 a = (100 + c, zN c)) (hst : stk = As.reverse ++ vR a :: st) (hk : As.length = kP) (hsz : zsz (vR a :: As) ≤ M'.2.2.1) (hcat : (st.map zcat).sum ≤ 8) (hR : zFit R 0 369 d') (d : decode M.2.1 pc = .ok (.invokevirtual idx, 3))
    (hw : wpN G d' M' 0 (zar 0 (vR a :: As)) [] h Q') (k : ∀ (v : Option zV) (h' : zHp), Q' v h' → wqS b G R Z X M 0 369 (pc + 3) ls (v.toList ++ st) h') : wqS b G R Z X M 0 369 pc ls stk h := by
  obtain ⟨hm, hi, hse, T, hc⟩ := vm
  exact wS_callV kP hm hi hse hlk hc ht hst hk hsz hcat (Nat.le_refl _) hR d hw (fun v h' q _ => k v h' q)
theorem lwC_0 (hL : L ≤ 2560) (hR : zFit R 0 369 30) (i0 : 0 ≤ i) (i1 : i + 5 ≤ L) (B : BS h s) (k : ∀ g t, BS g t → wqS b G R Z (zXs b L xs) (Ml nm) 0 369 1158 [(1, vR 1), (2, vR 343), (3, vI i)] [] g) : wqS b G R Z (zXs b L xs) (Ml nm) 0 369 192 [(1, vR 1), (2, vR 343), (3, vI i)] [] h := by
  refine wS_aload_n 0 rfl rfl dL_law_192 ?_
  refine wS_ld 2 hL rfl (by omega) (by omega) dL_law_193 dL_law_194 dL_law_195 dL_law_196 dL_law_197 ?_
  refine wS_V (As := [vI (xs (i + 1).toNat).toInt]) vm_X10_type lk_L_13 tT_1 rfl rfl (Nat.le_of_ble_eq_true rfl) (Nat.le_of_ble_eq_true rfl) hR dL_law_198 (yx_type (Q := fun v g => v = some (vI ((rTyp s ((xs (i + 1).toNat).toInt)).1)) ∧ XS g ((rTyp s ((xs (i + 1).toNat).toInt)).2) ∧ xcF h g) (by omega) B.1 (fun g a1 a2 => ⟨rfl, a1, a2⟩)) (fun v g1 q => ?_)
  obtain ⟨rfl, x1, c1⟩ := q
  refine wS_st (st' := [vI ((rTyp s ((xs (i + 1).toNat).toInt)).1)]) rfl ?_
  refine wS_aload_n 1 rfl rfl dL_law_201 ?_
  refine wS_ld 2 hL rfl (by omega) (by omega) dL_law_202 dL_law_203 dL_law_204 dL_law_205 dL_law_206 ?_
  refine wS_V (As := [vI (xs (i + 1).toNat).toInt]) vm_X11_type lk_L_17 tT_343 rfl rfl (Nat.le_of_ble_eq_true rfl) (Nat.le_of_ble_eq_true rfl) hR dL_law_207 (ym_type (Q := fun v g => v = some (vI ((rTyp s ((xs (i + 1).toNat).toInt)).1)) ∧ MS g ((rTyp s ((xs (i + 1).toNat).toInt)).2) ∧ mcF g1 g) (by omega) (MS_x c1 x1.1.1 B.2) (fun g a1 a2 => ⟨rfl, a1, a2⟩)) (fun v g2 q => ?_)
  obtain ⟨rfl, m2, c2⟩ := q
  refine wS_st (st' := [vI ((rTyp s ((xs (i + 1).toNat).toInt)).1), vI ((rTyp s ((xs (i + 1).toNat).toInt)).1)]) rfl ?_
  exact wS_icmp_eq 1158 rfl dL_law_210 (fun _ => k g2 _ (BS_m (s := s) x1 m2 c2)) (fun c => absurd rfl c)
theorem lwC_1 (hL : L ≤ 2560) (hR : zFit R 0 369 30) (i0 : 0 ≤ i) (i1 : i + 5 ≤ L) (B : BS h s) (k : ∀ g t, BS g t → wqS b G R Z (zXs b L xs) (Ml nm) 0 369 1158 [(1, vR 1), (2, vR 343), (3, vI i)] [] g) : wqS b G R Z (zXs b L xs) (Ml nm) 0 369 215 [(1, vR 1), (2, vR 343), (3, vI i)] [] h := by
  refine wS_aload_n 0 rfl rfl dL_law_215 ?_
  refine wS_V (As := []) vm_X10_clearText lk_L_18 tT_1 rfl rfl (Nat.le_of_ble_eq_true rfl) (Nat.le_of_ble_eq_true rfl) hR dL_law_216 (yx_clearText (Q := fun v g => v = some (vI ((rClr s).1)) ∧ XS g ((rClr s).2) ∧ xcF h g) B.1 (fun g a1 a2 => ⟨rfl, a1, a2⟩)) (fun v g1 q => ?_)
  obtain ⟨rfl, x1, c1⟩ := q
  refine wS_st (st' := [vI ((rClr s).1)]) rfl ?_
  refine wS_aload_n 1 rfl rfl dL_law_219 ?_
  refine wS_V (As := []) vm_X11_clearText lk_L_22 tT_343 rfl rfl (Nat.le_of_ble_eq_true rfl) (Nat.le_of_ble_eq_true rfl) hR dL_law_220 (ym_clearText (Q := fun v g => v = some (vI ((rClr s).1)) ∧ MS g ((rClr s).2) ∧ mcF g1 g) (MS_x c1 x1.1.1 B.2) (fun g a1 a2 => ⟨rfl, a1, a2⟩)) (fun v g2 q => ?_)
  obtain ⟨rfl, m2, c2⟩ := q
  refine wS_st (st' := [vI ((rClr s).1), vI ((rClr s).1)]) rfl ?_
  exact wS_icmp_eq 1158 rfl dL_law_223 (fun _ => k g2 _ (BS_m (s := s) x1 m2 c2)) (fun c => absurd rfl c)
theorem lwC_2 (hL : L ≤ 2560) (hR : zFit R 0 369 30) (i0 : 0 ≤ i) (i1 : i + 5 ≤ L) (B : BS h s) (k : ∀ g t, BS g t → wqS b G R Z (zXs b L xs) (Ml nm) 0 369 1158 [(1, vR 1), (2, vR 343), (3, vI i)] [] g) : wqS b G R Z (zXs b L xs) (Ml nm) 0 369 228 [(1, vR 1), (2, vR 343), (3, vI i)] [] h := by
  refine wS_aload_n 0 rfl rfl dL_law_228 ?_
  refine wS_V (As := []) vm_X10_templateFault lk_L_23 tT_1 rfl rfl (Nat.le_of_ble_eq_true rfl) (Nat.le_of_ble_eq_true rfl) hR dL_law_229 (yx_templateFault (Q := fun v g => v = some (vI ((rTf (sTx s)))) ∧ XS g (s) ∧ xcF h g) (by omega) B.1 (fun g a1 a2 => ⟨rfl, a1, a2⟩)) (fun v g1 q => ?_)
  obtain ⟨rfl, x1, c1⟩ := q
  refine wS_st (st' := [vI ((rTf (sTx s)))]) rfl ?_
  refine wS_aload_n 1 rfl rfl dL_law_232 ?_
  refine wS_V (As := []) vm_X11_templateFault lk_L_26 tT_343 rfl rfl (Nat.le_of_ble_eq_true rfl) (Nat.le_of_ble_eq_true rfl) hR dL_law_233 (ym_templateFault (Q := fun v g => v = some (vI ((rTf (sTx s)))) ∧ MS g (s) ∧ mcF g1 g) (by omega) (MS_x c1 x1.1.1 B.2) (fun g a1 a2 => ⟨rfl, a1, a2⟩)) (fun v g2 q => ?_)
  obtain ⟨rfl, m2, c2⟩ := q
  refine wS_st (st' := [vI ((rTf (sTx s))), vI ((rTf (sTx s)))]) rfl ?_
  exact wS_icmp_eq 1158 rfl dL_law_236 (fun _ => k g2 _ (BS_m (s := s) x1 m2 c2)) (fun c => absurd rfl c)
theorem lwC_3 (hL : L ≤ 2560) (hR : zFit R 0 369 30) (i0 : 0 ≤ i) (i1 : i + 5 ≤ L) (B : BS h s) (k : ∀ g t, BS g t → wqS b G R Z (zXs b L xs) (Ml nm) 0 369 1158 [(1, vR 1), (2, vR 343), (3, vI i)] [] g) : wqS b G R Z (zXs b L xs) (Ml nm) 0 369 241 [(1, vR 1), (2, vR 343), (3, vI i)] [] h := by
  refine wS_aload_n 0 rfl rfl dL_law_241 ?_
  refine wS_ld 2 hL rfl (by omega) (by omega) dL_law_242 dL_law_243 dL_law_244 dL_law_245 dL_law_246 ?_
  refine wS_V (As := [vI (xs (i + 1).toNat).toInt]) vm_X10_define lk_L_27 tT_1 rfl rfl (Nat.le_of_ble_eq_true rfl) (Nat.le_of_ble_eq_true rfl) hR dL_law_247 (yx_define (Q := fun v g => v = some (vI ((rDef s ((xs (i + 1).toNat).toInt)).1)) ∧ XS g ((rDef s ((xs (i + 1).toNat).toInt)).2) ∧ xcF h g) (by omega) B.1 (fun g a1 a2 => ⟨rfl, a1, a2⟩)) (fun v g1 q => ?_)
  obtain ⟨rfl, x1, c1⟩ := q
  refine wS_st (st' := [vI ((rDef s ((xs (i + 1).toNat).toInt)).1)]) rfl ?_
  refine wS_aload_n 1 rfl rfl dL_law_250 ?_
  refine wS_ld 2 hL rfl (by omega) (by omega) dL_law_251 dL_law_252 dL_law_253 dL_law_254 dL_law_255 ?_
  refine wS_V (As := [vI (xs (i + 1).toNat).toInt]) vm_X11_define lk_L_30 tT_343 rfl rfl (Nat.le_of_ble_eq_true rfl) (Nat.le_of_ble_eq_true rfl) hR dL_law_256 (ym_define (Q := fun v g => v = some (vI ((rDef s ((xs (i + 1).toNat).toInt)).1)) ∧ MS g ((rDef s ((xs (i + 1).toNat).toInt)).2) ∧ mcF g1 g) (by omega) (MS_x c1 x1.1.1 B.2) (fun g a1 a2 => ⟨rfl, a1, a2⟩)) (fun v g2 q => ?_)
  obtain ⟨rfl, m2, c2⟩ := q
  refine wS_st (st' := [vI ((rDef s ((xs (i + 1).toNat).toInt)).1), vI ((rDef s ((xs (i + 1).toNat).toInt)).1)]) rfl ?_
  exact wS_icmp_eq 1158 rfl dL_law_259 (fun _ => k g2 _ (BS_m (s := s) x1 m2 c2)) (fun c => absurd rfl c)
theorem lwC_4 (hL : L ≤ 2560) (hR : zFit R 0 369 30) (i0 : 0 ≤ i) (i1 : i + 5 ≤ L) (B : BS h s) (k : ∀ g t, BS g t → wqS b G R Z (zXs b L xs) (Ml nm) 0 369 1158 [(1, vR 1), (2, vR 343), (3, vI i)] [] g) : wqS b G R Z (zXs b L xs) (Ml nm) 0 369 264 [(1, vR 1), (2, vR 343), (3, vI i)] [] h := by
  refine wS_aload_n 0 rfl rfl dL_law_264 ?_
  refine wS_ld 2 hL rfl (by omega) (by omega) dL_law_265 dL_law_266 dL_law_267 dL_law_268 dL_law_269 ?_
  refine wS_V (As := [vI (xs (i + 1).toNat).toInt]) vm_X10_items lk_L_31 tT_1 rfl rfl (Nat.le_of_ble_eq_true rfl) (Nat.le_of_ble_eq_true rfl) hR dL_law_270 (yx_items (Q := fun v g => v = some (vI ((rItm s ((xs (i + 1).toNat).toInt)))) ∧ XS g (s) ∧ xcF h g) (by omega) B.1 (fun g a1 a2 => ⟨rfl, a1, a2⟩)) (fun v g1 q => ?_)
  obtain ⟨rfl, x1, c1⟩ := q
  refine wS_st (st' := [vI ((rItm s ((xs (i + 1).toNat).toInt)))]) rfl ?_
  refine wS_aload_n 1 rfl rfl dL_law_273 ?_
  refine wS_ld 2 hL rfl (by omega) (by omega) dL_law_274 dL_law_275 dL_law_276 dL_law_277 dL_law_278 ?_
  refine wS_V (As := [vI (xs (i + 1).toNat).toInt]) vm_X11_items lk_L_34 tT_343 rfl rfl (Nat.le_of_ble_eq_true rfl) (Nat.le_of_ble_eq_true rfl) hR dL_law_279 (ym_items (Q := fun v g => v = some (vI ((rItm s ((xs (i + 1).toNat).toInt)))) ∧ MS g (s) ∧ mcF g1 g) (by omega) (MS_x c1 x1.1.1 B.2) (fun g a1 a2 => ⟨rfl, a1, a2⟩)) (fun v g2 q => ?_)
  obtain ⟨rfl, m2, c2⟩ := q
  refine wS_st (st' := [vI ((rItm s ((xs (i + 1).toNat).toInt))), vI ((rItm s ((xs (i + 1).toNat).toInt)))]) rfl ?_
  exact wS_icmp_eq 1158 rfl dL_law_282 (fun _ => k g2 _ (BS_m (s := s) x1 m2 c2)) (fun c => absurd rfl c)
theorem lwC_5 (hL : L ≤ 2560) (hR : zFit R 0 369 30) (i0 : 0 ≤ i) (i1 : i + 5 ≤ L) (B : BS h s) (k : ∀ g t, BS g t → wqS b G R Z (zXs b L xs) (Ml nm) 0 369 1158 [(1, vR 1), (2, vR 343), (3, vI i)] [] g) : wqS b G R Z (zXs b L xs) (Ml nm) 0 369 287 [(1, vR 1), (2, vR 343), (3, vI i)] [] h := by
  refine wS_aload_n 0 rfl rfl dL_law_287 ?_
  refine wS_V (As := []) vm_X10_patternFault lk_L_35 tT_1 rfl rfl (Nat.le_of_ble_eq_true rfl) (Nat.le_of_ble_eq_true rfl) hR dL_law_288 (yx_patternFault (Q := fun v g => v = some (vI ((pf (sTx s)).1)) ∧ XS g (s) ∧ xcF h g) (by omega) B.1 (fun g a1 a2 => ⟨rfl, a1, a2⟩)) (fun v g1 q => ?_)
  obtain ⟨rfl, x1, c1⟩ := q
  refine wS_st (st' := [vI ((pf (sTx s)).1)]) rfl ?_
  refine wS_aload_n 1 rfl rfl dL_law_291 ?_
  refine wS_V (As := []) vm_X11_patternFault lk_L_38 tT_343 rfl rfl (Nat.le_of_ble_eq_true rfl) (Nat.le_of_ble_eq_true rfl) hR dL_law_292 (ym_patternFault (Q := fun v g => v = some (vI ((pf (sTx s)).1)) ∧ MS g (s) ∧ mcF g1 g) (by omega) (MS_x c1 x1.1.1 B.2) (fun g a1 a2 => ⟨rfl, a1, a2⟩)) (fun v g2 q => ?_)
  obtain ⟨rfl, m2, c2⟩ := q
  refine wS_st (st' := [vI ((pf (sTx s)).1), vI ((pf (sTx s)).1)]) rfl ?_
  exact wS_icmp_eq 1158 rfl dL_law_295 (fun _ => k g2 _ (BS_m (s := s) x1 m2 c2)) (fun c => absurd rfl c)
theorem lwC_6 (hL : L ≤ 2560) (hR : zFit R 0 369 30) (i0 : 0 ≤ i) (i1 : i + 5 ≤ L) (B : BS h s) (k : ∀ g t, BS g t → wqS b G R Z (zXs b L xs) (Ml nm) 0 369 1158 [(1, vR 1), (2, vR 343), (3, vI i)] [] g) : wqS b G R Z (zXs b L xs) (Ml nm) 0 369 300 [(1, vR 1), (2, vR 343), (3, vI i)] [] h := by
  refine wS_aload_n 0 rfl rfl dL_law_300 ?_
  refine wS_ld 2 hL rfl (by omega) (by omega) dL_law_301 dL_law_302 dL_law_303 dL_law_304 dL_law_305 ?_
  refine wS_V (As := [vI (xs (i + 1).toNat).toInt]) vm_X10_find lk_L_39 tT_1 rfl rfl (Nat.le_of_ble_eq_true rfl) (Nat.le_of_ble_eq_true rfl) hR dL_law_306 (yx_find (Q := fun v g => v = some (vI ((rFind (sTx s) (sB s) ((xs (i + 1).toNat).toInt)))) ∧ XS g (s) ∧ xcF h g) (by omega) B.1 (fun g a1 a2 => ⟨rfl, a1, a2⟩)) (fun v g1 q => ?_)
  obtain ⟨rfl, x1, c1⟩ := q
  refine wS_st (st' := [vI ((rFind (sTx s) (sB s) ((xs (i + 1).toNat).toInt)))]) rfl ?_
  refine wS_aload_n 1 rfl rfl dL_law_309 ?_
  refine wS_ld 2 hL rfl (by omega) (by omega) dL_law_310 dL_law_311 dL_law_312 dL_law_313 dL_law_314 ?_
  refine wS_V (As := [vI (xs (i + 1).toNat).toInt]) vm_X11_find lk_L_42 tT_343 rfl rfl (Nat.le_of_ble_eq_true rfl) (Nat.le_of_ble_eq_true rfl) hR dL_law_315 (ym_find (Q := fun v g => v = some (vI ((rFind (sTx s) (sB s) ((xs (i + 1).toNat).toInt)))) ∧ MS g (s) ∧ mcF g1 g) (by omega) (MS_x c1 x1.1.1 B.2) (fun g a1 a2 => ⟨rfl, a1, a2⟩)) (fun v g2 q => ?_)
  obtain ⟨rfl, m2, c2⟩ := q
  refine wS_st (st' := [vI ((rFind (sTx s) (sB s) ((xs (i + 1).toNat).toInt))), vI ((rFind (sTx s) (sB s) ((xs (i + 1).toNat).toInt)))]) rfl ?_
  exact wS_icmp_eq 1158 rfl dL_law_318 (fun _ => k g2 _ (BS_m (s := s) x1 m2 c2)) (fun c => absurd rfl c)
theorem lwC_7 (hL : L ≤ 2560) (hR : zFit R 0 369 30) (i0 : 0 ≤ i) (i1 : i + 5 ≤ L) (B : BS h s) (k : ∀ g t, BS g t → wqS b G R Z (zXs b L xs) (Ml nm) 0 369 1158 [(1, vR 1), (2, vR 343), (3, vI i)] [] g) : wqS b G R Z (zXs b L xs) (Ml nm) 0 369 323 [(1, vR 1), (2, vR 343), (3, vI i)] [] h := by
  refine wS_aload_n 0 rfl rfl dL_law_323 ?_
  refine wS_V (As := []) vm_X10_matches lk_L_43 tT_1 rfl rfl (Nat.le_of_ble_eq_true rfl) (Nat.le_of_ble_eq_true rfl) hR dL_law_324 (yx_matches (Q := fun v g => v = some (vI ((rMatches (sTx s) (sB s)))) ∧ XS g (s) ∧ xcF h g) (by omega) B.1 (fun g a1 a2 => ⟨rfl, a1, a2⟩)) (fun v g1 q => ?_)
  obtain ⟨rfl, x1, c1⟩ := q
  refine wS_st (st' := [vI ((rMatches (sTx s) (sB s)))]) rfl ?_
  refine wS_aload_n 1 rfl rfl dL_law_327 ?_
  refine wS_V (As := []) vm_X11_matches lk_L_46 tT_343 rfl rfl (Nat.le_of_ble_eq_true rfl) (Nat.le_of_ble_eq_true rfl) hR dL_law_328 (ym_matches (Q := fun v g => v = some (vI ((rMatches (sTx s) (sB s)))) ∧ MS g (s) ∧ mcF g1 g) (by omega) (MS_x c1 x1.1.1 B.2) (fun g a1 a2 => ⟨rfl, a1, a2⟩)) (fun v g2 q => ?_)
  obtain ⟨rfl, m2, c2⟩ := q
  refine wS_st (st' := [vI ((rMatches (sTx s) (sB s))), vI ((rMatches (sTx s) (sB s)))]) rfl ?_
  exact wS_icmp_eq 1158 rfl dL_law_331 (fun _ => k g2 _ (BS_m (s := s) x1 m2 c2)) (fun c => absurd rfl c)
theorem lwC_8 (hL : L ≤ 2560) (hR : zFit R 0 369 30) (i0 : 0 ≤ i) (i1 : i + 5 ≤ L) (B : BS h s) (k : ∀ g t, BS g t → wqS b G R Z (zXs b L xs) (Ml nm) 0 369 1158 [(1, vR 1), (2, vR 343), (3, vI i)] [] g) : wqS b G R Z (zXs b L xs) (Ml nm) 0 369 336 [(1, vR 1), (2, vR 343), (3, vI i)] [] h := by
  refine wS_aload_n 0 rfl rfl dL_law_336 ?_
  refine wS_V (As := []) vm_X10_length lk_L_47 tT_1 rfl rfl (Nat.le_of_ble_eq_true rfl) (Nat.le_of_ble_eq_true rfl) hR dL_law_337 (yx_length (Q := fun v g => v = some (vI ((aLen s))) ∧ XS g (s) ∧ xcF h g) B.1 (fun g a1 a2 => ⟨rfl, a1, a2⟩)) (fun v g1 q => ?_)
  obtain ⟨rfl, x1, c1⟩ := q
  refine wS_st (st' := [vI ((aLen s))]) rfl ?_
  refine wS_aload_n 1 rfl rfl dL_law_340 ?_
  refine wS_V (As := []) vm_X11_length lk_L_50 tT_343 rfl rfl (Nat.le_of_ble_eq_true rfl) (Nat.le_of_ble_eq_true rfl) hR dL_law_341 (ym_length (Q := fun v g => v = some (vI ((aLen s))) ∧ MS g (s) ∧ mcF g1 g) (by omega) (MS_x c1 x1.1.1 B.2) (fun g a1 a2 => ⟨rfl, a1, a2⟩)) (fun v g2 q => ?_)
  obtain ⟨rfl, m2, c2⟩ := q
  refine wS_st (st' := [vI ((aLen s)), vI ((aLen s))]) rfl ?_
  exact wS_icmp_eq 1158 rfl dL_law_344 (fun _ => k g2 _ (BS_m (s := s) x1 m2 c2)) (fun c => absurd rfl c)
theorem lwC_9 (hL : L ≤ 2560) (hR : zFit R 0 369 30) (i0 : 0 ≤ i) (i1 : i + 5 ≤ L) (B : BS h s) (k : ∀ g t, BS g t → wqS b G R Z (zXs b L xs) (Ml nm) 0 369 1158 [(1, vR 1), (2, vR 343), (3, vI i)] [] g) : wqS b G R Z (zXs b L xs) (Ml nm) 0 369 349 [(1, vR 1), (2, vR 343), (3, vI i)] [] h := by
  refine wS_aload_n 0 rfl rfl dL_law_349 ?_
  refine wS_ld 2 hL rfl (by omega) (by omega) dL_law_350 dL_law_351 dL_law_352 dL_law_353 dL_law_354 ?_
  refine wS_V (As := [vI (xs (i + 1).toNat).toInt]) vm_X10_byteAt lk_L_51 tT_1 rfl rfl (Nat.le_of_ble_eq_true rfl) (Nat.le_of_ble_eq_true rfl) hR dL_law_355 (yx_byteAt (Q := fun v g => v = some (vI ((rByt s ((xs (i + 1).toNat).toInt)))) ∧ XS g (s) ∧ xcF h g) (by omega) B.1 (fun g a1 a2 => ⟨rfl, a1, a2⟩)) (fun v g1 q => ?_)
  obtain ⟨rfl, x1, c1⟩ := q
  refine wS_st (st' := [vI ((rByt s ((xs (i + 1).toNat).toInt)))]) rfl ?_
  refine wS_aload_n 1 rfl rfl dL_law_358 ?_
  refine wS_ld 2 hL rfl (by omega) (by omega) dL_law_359 dL_law_360 dL_law_361 dL_law_362 dL_law_363 ?_
  refine wS_V (As := [vI (xs (i + 1).toNat).toInt]) vm_X11_byteAt lk_L_54 tT_343 rfl rfl (Nat.le_of_ble_eq_true rfl) (Nat.le_of_ble_eq_true rfl) hR dL_law_364 (ym_byteAt (Q := fun v g => v = some (vI ((rByt s ((xs (i + 1).toNat).toInt)))) ∧ MS g (s) ∧ mcF g1 g) (by omega) (MS_x c1 x1.1.1 B.2) (fun g a1 a2 => ⟨rfl, a1, a2⟩)) (fun v g2 q => ?_)
  obtain ⟨rfl, m2, c2⟩ := q
  refine wS_st (st' := [vI ((rByt s ((xs (i + 1).toNat).toInt))), vI ((rByt s ((xs (i + 1).toNat).toInt)))]) rfl ?_
  exact wS_icmp_eq 1158 rfl dL_law_367 (fun _ => k g2 _ (BS_m (s := s) x1 m2 c2)) (fun c => absurd rfl c)
theorem lwC_10 (hL : L ≤ 2560) (hR : zFit R 0 369 30) (i0 : 0 ≤ i) (i1 : i + 5 ≤ L) (B : BS h s) (k : ∀ g t, BS g t → wqS b G R Z (zXs b L xs) (Ml nm) 0 369 1158 [(1, vR 1), (2, vR 343), (3, vI i)] [] g) : wqS b G R Z (zXs b L xs) (Ml nm) 0 369 372 [(1, vR 1), (2, vR 343), (3, vI i)] [] h := by
  refine wS_aload_n 0 rfl rfl dL_law_372 ?_
  refine wS_ld 2 hL rfl (by omega) (by omega) dL_law_373 dL_law_374 dL_law_375 dL_law_376 dL_law_377 ?_
  refine wS_ld 2 hL rfl (by omega) (by omega) dL_law_378 dL_law_379 dL_law_380 dL_law_381 dL_law_382 ?_
  refine wS_ld 2 hL rfl (by omega) (by omega) dL_law_383 dL_law_384 dL_law_385 dL_law_386 dL_law_387 ?_
  refine wS_V (As := [vI (xs (i + 1).toNat).toInt, vI (xs (i + 2).toNat).toInt, vI (xs (i + 3).toNat).toInt]) vm_X10_insert lk_L_55 tT_1 rfl rfl (Nat.le_of_ble_eq_true rfl) (Nat.le_of_ble_eq_true rfl) hR dL_law_388 (yx_insert (Q := fun v g => v = some (vI ((rIns s ((xs (i + 1).toNat).toInt) ((xs (i + 2).toNat).toInt) ((xs (i + 3).toNat).toInt)).1)) ∧ XS g ((rIns s ((xs (i + 1).toNat).toInt) ((xs (i + 2).toNat).toInt) ((xs (i + 3).toNat).toInt)).2) ∧ xcF h g) (by omega) B.1 (fun g a1 a2 => ⟨rfl, a1, a2⟩)) (fun v g1 q => ?_)
  obtain ⟨rfl, x1, c1⟩ := q
  refine wS_st (st' := [vI ((rIns s ((xs (i + 1).toNat).toInt) ((xs (i + 2).toNat).toInt) ((xs (i + 3).toNat).toInt)).1)]) rfl ?_
  refine wS_aload_n 1 rfl rfl dL_law_391 ?_
  refine wS_ld 2 hL rfl (by omega) (by omega) dL_law_392 dL_law_393 dL_law_394 dL_law_395 dL_law_396 ?_
  refine wS_ld 2 hL rfl (by omega) (by omega) dL_law_397 dL_law_398 dL_law_399 dL_law_400 dL_law_401 ?_
  refine wS_ld 2 hL rfl (by omega) (by omega) dL_law_402 dL_law_403 dL_law_404 dL_law_405 dL_law_406 ?_
  refine wS_V (As := [vI (xs (i + 1).toNat).toInt, vI (xs (i + 2).toNat).toInt, vI (xs (i + 3).toNat).toInt]) vm_X11_insert lk_L_59 tT_343 rfl rfl (Nat.le_of_ble_eq_true rfl) (Nat.le_of_ble_eq_true rfl) hR dL_law_407 (ym_insert (Q := fun v g => v = some (vI ((rIns s ((xs (i + 1).toNat).toInt) ((xs (i + 2).toNat).toInt) ((xs (i + 3).toNat).toInt)).1)) ∧ MS g ((rIns s ((xs (i + 1).toNat).toInt) ((xs (i + 2).toNat).toInt) ((xs (i + 3).toNat).toInt)).2) ∧ mcF g1 g) (by omega) (MS_x c1 x1.1.1 B.2) (fun g a1 a2 => ⟨rfl, a1, a2⟩)) (fun v g2 q => ?_)
  obtain ⟨rfl, m2, c2⟩ := q
  refine wS_st (st' := [vI ((rIns s ((xs (i + 1).toNat).toInt) ((xs (i + 2).toNat).toInt) ((xs (i + 3).toNat).toInt)).1), vI ((rIns s ((xs (i + 1).toNat).toInt) ((xs (i + 2).toNat).toInt) ((xs (i + 3).toNat).toInt)).1)]) rfl ?_
  exact wS_icmp_eq 1158 rfl dL_law_410 (fun _ => k g2 _ (BS_m (s := s) x1 m2 c2)) (fun c => absurd rfl c)
theorem lwC_11 (hL : L ≤ 2560) (hR : zFit R 0 369 30) (i0 : 0 ≤ i) (i1 : i + 5 ≤ L) (B : BS h s) (k : ∀ g t, BS g t → wqS b G R Z (zXs b L xs) (Ml nm) 0 369 1158 [(1, vR 1), (2, vR 343), (3, vI i)] [] g) : wqS b G R Z (zXs b L xs) (Ml nm) 0 369 415 [(1, vR 1), (2, vR 343), (3, vI i)] [] h := by
  refine wS_aload_n 0 rfl rfl dL_law_415 ?_
  refine wS_ld 2 hL rfl (by omega) (by omega) dL_law_416 dL_law_417 dL_law_418 dL_law_419 dL_law_420 ?_
  refine wS_ld 2 hL rfl (by omega) (by omega) dL_law_421 dL_law_422 dL_law_423 dL_law_424 dL_law_425 ?_
  refine wS_V (As := [vI (xs (i + 1).toNat).toInt, vI (xs (i + 2).toNat).toInt]) vm_X10_delete lk_L_60 tT_1 rfl rfl (Nat.le_of_ble_eq_true rfl) (Nat.le_of_ble_eq_true rfl) hR dL_law_426 (yx_delete (Q := fun v g => v = some (vI ((rDel s ((xs (i + 1).toNat).toInt) ((xs (i + 2).toNat).toInt)).1)) ∧ XS g ((rDel s ((xs (i + 1).toNat).toInt) ((xs (i + 2).toNat).toInt)).2) ∧ xcF h g) (by omega) B.1 (zi_rng _) (fun g a1 a2 => ⟨rfl, a1, a2⟩)) (fun v g1 q => ?_)
  obtain ⟨rfl, x1, c1⟩ := q
  refine wS_st (st' := [vI ((rDel s ((xs (i + 1).toNat).toInt) ((xs (i + 2).toNat).toInt)).1)]) rfl ?_
  refine wS_aload_n 1 rfl rfl dL_law_429 ?_
  refine wS_ld 2 hL rfl (by omega) (by omega) dL_law_430 dL_law_431 dL_law_432 dL_law_433 dL_law_434 ?_
  refine wS_ld 2 hL rfl (by omega) (by omega) dL_law_435 dL_law_436 dL_law_437 dL_law_438 dL_law_439 ?_
  refine wS_V (As := [vI (xs (i + 1).toNat).toInt, vI (xs (i + 2).toNat).toInt]) vm_X11_delete lk_L_64 tT_343 rfl rfl (Nat.le_of_ble_eq_true rfl) (Nat.le_of_ble_eq_true rfl) hR dL_law_440 (ym_delete (Q := fun v g => v = some (vI ((rDel s ((xs (i + 1).toNat).toInt) ((xs (i + 2).toNat).toInt)).1)) ∧ MS g ((rDel s ((xs (i + 1).toNat).toInt) ((xs (i + 2).toNat).toInt)).2) ∧ mcF g1 g) (by omega) (MS_x c1 x1.1.1 B.2) (fun g a1 a2 => ⟨rfl, a1, a2⟩)) (fun v g2 q => ?_)
  obtain ⟨rfl, m2, c2⟩ := q
  refine wS_st (st' := [vI ((rDel s ((xs (i + 1).toNat).toInt) ((xs (i + 2).toNat).toInt)).1), vI ((rDel s ((xs (i + 1).toNat).toInt) ((xs (i + 2).toNat).toInt)).1)]) rfl ?_
  exact wS_icmp_eq 1158 rfl dL_law_443 (fun _ => k g2 _ (BS_m (s := s) x1 m2 c2)) (fun c => absurd rfl c)
theorem lwC_12 (hL : L ≤ 2560) (hR : zFit R 0 369 30) (i0 : 0 ≤ i) (i1 : i + 5 ≤ L) (B : BS h s) (k : ∀ g t, BS g t → wqS b G R Z (zXs b L xs) (Ml nm) 0 369 1158 [(1, vR 1), (2, vR 343), (3, vI i)] [] g) : wqS b G R Z (zXs b L xs) (Ml nm) 0 369 448 [(1, vR 1), (2, vR 343), (3, vI i)] [] h := by
  refine wS_aload_n 0 rfl rfl dL_law_448 ?_
  refine wS_ld 2 hL rfl (by omega) (by omega) dL_law_449 dL_law_450 dL_law_451 dL_law_452 dL_law_453 ?_
  refine wS_ld 2 hL rfl (by omega) (by omega) dL_law_454 dL_law_455 dL_law_456 dL_law_457 dL_law_458 ?_
  refine wS_V (As := [vI (xs (i + 1).toNat).toInt, vI (xs (i + 2).toNat).toInt]) vm_X10_overwrite lk_L_65 tT_1 rfl rfl (Nat.le_of_ble_eq_true rfl) (Nat.le_of_ble_eq_true rfl) hR dL_law_459 (yx_overwrite (Q := fun v g => v = some (vI ((rOvw s ((xs (i + 1).toNat).toInt) ((xs (i + 2).toNat).toInt)).1)) ∧ XS g ((rOvw s ((xs (i + 1).toNat).toInt) ((xs (i + 2).toNat).toInt)).2) ∧ xcF h g) (by omega) B.1 (fun g a1 a2 => ⟨rfl, a1, a2⟩)) (fun v g1 q => ?_)
  obtain ⟨rfl, x1, c1⟩ := q
  refine wS_st (st' := [vI ((rOvw s ((xs (i + 1).toNat).toInt) ((xs (i + 2).toNat).toInt)).1)]) rfl ?_
  refine wS_aload_n 1 rfl rfl dL_law_462 ?_
  refine wS_ld 2 hL rfl (by omega) (by omega) dL_law_463 dL_law_464 dL_law_465 dL_law_466 dL_law_467 ?_
  refine wS_ld 2 hL rfl (by omega) (by omega) dL_law_468 dL_law_469 dL_law_470 dL_law_471 dL_law_472 ?_
  refine wS_V (As := [vI (xs (i + 1).toNat).toInt, vI (xs (i + 2).toNat).toInt]) vm_X11_overwrite lk_L_68 tT_343 rfl rfl (Nat.le_of_ble_eq_true rfl) (Nat.le_of_ble_eq_true rfl) hR dL_law_473 (ym_overwrite (Q := fun v g => v = some (vI ((rOvw s ((xs (i + 1).toNat).toInt) ((xs (i + 2).toNat).toInt)).1)) ∧ MS g ((rOvw s ((xs (i + 1).toNat).toInt) ((xs (i + 2).toNat).toInt)).2) ∧ mcF g1 g) (by omega) (MS_x c1 x1.1.1 B.2) (fun g a1 a2 => ⟨rfl, a1, a2⟩)) (fun v g2 q => ?_)
  obtain ⟨rfl, m2, c2⟩ := q
  refine wS_st (st' := [vI ((rOvw s ((xs (i + 1).toNat).toInt) ((xs (i + 2).toNat).toInt)).1), vI ((rOvw s ((xs (i + 1).toNat).toInt) ((xs (i + 2).toNat).toInt)).1)]) rfl ?_
  exact wS_icmp_eq 1158 rfl dL_law_476 (fun _ => k g2 _ (BS_m (s := s) x1 m2 c2)) (fun c => absurd rfl c)
theorem lwC_13 (hL : L ≤ 2560) (hR : zFit R 0 369 30) (i0 : 0 ≤ i) (i1 : i + 5 ≤ L) (B : BS h s) (k : ∀ g t, BS g t → wqS b G R Z (zXs b L xs) (Ml nm) 0 369 1158 [(1, vR 1), (2, vR 343), (3, vI i)] [] g) : wqS b G R Z (zXs b L xs) (Ml nm) 0 369 481 [(1, vR 1), (2, vR 343), (3, vI i)] [] h := by
  refine wS_aload_n 0 rfl rfl dL_law_481 ?_
  refine wS_ld 2 hL rfl (by omega) (by omega) dL_law_482 dL_law_483 dL_law_484 dL_law_485 dL_law_486 ?_
  refine wS_ld 2 hL rfl (by omega) (by omega) dL_law_487 dL_law_488 dL_law_489 dL_law_490 dL_law_491 ?_
  refine wS_V (As := [vI (xs (i + 1).toNat).toInt, vI (xs (i + 2).toNat).toInt]) vm_X10_copy lk_L_69 tT_1 rfl rfl (Nat.le_of_ble_eq_true rfl) (Nat.le_of_ble_eq_true rfl) hR dL_law_492 (yx_copy (Q := fun v g => v = some (vI ((rCop s ((xs (i + 1).toNat).toInt) ((xs (i + 2).toNat).toInt)).1)) ∧ XS g ((rCop s ((xs (i + 1).toNat).toInt) ((xs (i + 2).toNat).toInt)).2) ∧ xcF h g) (by omega) B.1 (fun g a1 a2 => ⟨rfl, a1, a2⟩)) (fun v g1 q => ?_)
  obtain ⟨rfl, x1, c1⟩ := q
  refine wS_st (st' := [vI ((rCop s ((xs (i + 1).toNat).toInt) ((xs (i + 2).toNat).toInt)).1)]) rfl ?_
  refine wS_aload_n 1 rfl rfl dL_law_495 ?_
  refine wS_ld 2 hL rfl (by omega) (by omega) dL_law_496 dL_law_497 dL_law_498 dL_law_499 dL_law_500 ?_
  refine wS_ld 2 hL rfl (by omega) (by omega) dL_law_501 dL_law_502 dL_law_503 dL_law_504 dL_law_505 ?_
  refine wS_V (As := [vI (xs (i + 1).toNat).toInt, vI (xs (i + 2).toNat).toInt]) vm_X11_copy lk_L_72 tT_343 rfl rfl (Nat.le_of_ble_eq_true rfl) (Nat.le_of_ble_eq_true rfl) hR dL_law_506 (ym_copy (Q := fun v g => v = some (vI ((rCop s ((xs (i + 1).toNat).toInt) ((xs (i + 2).toNat).toInt)).1)) ∧ MS g ((rCop s ((xs (i + 1).toNat).toInt) ((xs (i + 2).toNat).toInt)).2) ∧ mcF g1 g) (by omega) (zi_rng _) (MS_x c1 x1.1.1 B.2) (fun g a1 a2 => ⟨rfl, a1, a2⟩)) (fun v g2 q => ?_)
  obtain ⟨rfl, m2, c2⟩ := q
  refine wS_st (st' := [vI ((rCop s ((xs (i + 1).toNat).toInt) ((xs (i + 2).toNat).toInt)).1), vI ((rCop s ((xs (i + 1).toNat).toInt) ((xs (i + 2).toNat).toInt)).1)]) rfl ?_
  exact wS_icmp_eq 1158 rfl dL_law_509 (fun _ => k g2 _ (BS_m (s := s) x1 m2 c2)) (fun c => absurd rfl c)
theorem lwC_14 (hL : L ≤ 2560) (hR : zFit R 0 369 30) (i0 : 0 ≤ i) (i1 : i + 5 ≤ L) (B : BS h s) (k : ∀ g t, BS g t → wqS b G R Z (zXs b L xs) (Ml nm) 0 369 1158 [(1, vR 1), (2, vR 343), (3, vI i)] [] g) : wqS b G R Z (zXs b L xs) (Ml nm) 0 369 514 [(1, vR 1), (2, vR 343), (3, vI i)] [] h := by
  refine wS_aload_n 0 rfl rfl dL_law_514 ?_
  refine wS_ld 2 hL rfl (by omega) (by omega) dL_law_515 dL_law_516 dL_law_517 dL_law_518 dL_law_519 ?_
  refine wS_V (As := [vI (xs (i + 1).toNat).toInt]) vm_X10_paste lk_L_73 tT_1 rfl rfl (Nat.le_of_ble_eq_true rfl) (Nat.le_of_ble_eq_true rfl) hR dL_law_520 (yx_paste (Q := fun v g => v = some (vI ((rPst s ((xs (i + 1).toNat).toInt)).1)) ∧ XS g ((rPst s ((xs (i + 1).toNat).toInt)).2) ∧ xcF h g) (by omega) B.1 (fun g a1 a2 => ⟨rfl, a1, a2⟩)) (fun v g1 q => ?_)
  obtain ⟨rfl, x1, c1⟩ := q
  refine wS_st (st' := [vI ((rPst s ((xs (i + 1).toNat).toInt)).1)]) rfl ?_
  refine wS_aload_n 1 rfl rfl dL_law_523 ?_
  refine wS_ld 2 hL rfl (by omega) (by omega) dL_law_524 dL_law_525 dL_law_526 dL_law_527 dL_law_528 ?_
  refine wS_V (As := [vI (xs (i + 1).toNat).toInt]) vm_X11_paste lk_L_76 tT_343 rfl rfl (Nat.le_of_ble_eq_true rfl) (Nat.le_of_ble_eq_true rfl) hR dL_law_529 (ym_paste (Q := fun v g => v = some (vI ((rPst s ((xs (i + 1).toNat).toInt)).1)) ∧ MS g ((rPst s ((xs (i + 1).toNat).toInt)).2) ∧ mcF g1 g) (by omega) (MS_x c1 x1.1.1 B.2) (fun g a1 a2 => ⟨rfl, a1, a2⟩)) (fun v g2 q => ?_)
  obtain ⟨rfl, m2, c2⟩ := q
  refine wS_st (st' := [vI ((rPst s ((xs (i + 1).toNat).toInt)).1), vI ((rPst s ((xs (i + 1).toNat).toInt)).1)]) rfl ?_
  exact wS_icmp_eq 1158 rfl dL_law_532 (fun _ => k g2 _ (BS_m (s := s) x1 m2 c2)) (fun c => absurd rfl c)
theorem lwC_15 (hL : L ≤ 2560) (hR : zFit R 0 369 30) (i0 : 0 ≤ i) (i1 : i + 5 ≤ L) (B : BS h s) (k : ∀ g t, BS g t → wqS b G R Z (zXs b L xs) (Ml nm) 0 369 1158 [(1, vR 1), (2, vR 343), (3, vI i)] [] g) : wqS b G R Z (zXs b L xs) (Ml nm) 0 369 537 [(1, vR 1), (2, vR 343), (3, vI i)] [] h := by
  refine wS_aload_n 0 rfl rfl dL_law_537 ?_
  refine wS_ld 2 hL rfl (by omega) (by omega) dL_law_538 dL_law_539 dL_law_540 dL_law_541 dL_law_542 ?_
  refine wS_V (As := [vI (xs (i + 1).toNat).toInt]) vm_X10_pasteOver lk_L_77 tT_1 rfl rfl (Nat.le_of_ble_eq_true rfl) (Nat.le_of_ble_eq_true rfl) hR dL_law_543 (yx_pasteOver (Q := fun v g => v = some (vI ((rPov s ((xs (i + 1).toNat).toInt)).1)) ∧ XS g ((rPov s ((xs (i + 1).toNat).toInt)).2) ∧ xcF h g) (by omega) B.1 (fun g a1 a2 => ⟨rfl, a1, a2⟩)) (fun v g1 q => ?_)
  obtain ⟨rfl, x1, c1⟩ := q
  refine wS_st (st' := [vI ((rPov s ((xs (i + 1).toNat).toInt)).1)]) rfl ?_
  refine wS_aload_n 1 rfl rfl dL_law_546 ?_
  refine wS_ld 2 hL rfl (by omega) (by omega) dL_law_547 dL_law_548 dL_law_549 dL_law_550 dL_law_551 ?_
  refine wS_V (As := [vI (xs (i + 1).toNat).toInt]) vm_X11_pasteOver lk_L_80 tT_343 rfl rfl (Nat.le_of_ble_eq_true rfl) (Nat.le_of_ble_eq_true rfl) hR dL_law_552 (ym_pasteOver (Q := fun v g => v = some (vI ((rPov s ((xs (i + 1).toNat).toInt)).1)) ∧ MS g ((rPov s ((xs (i + 1).toNat).toInt)).2) ∧ mcF g1 g) (by omega) (MS_x c1 x1.1.1 B.2) (fun g a1 a2 => ⟨rfl, a1, a2⟩)) (fun v g2 q => ?_)
  obtain ⟨rfl, m2, c2⟩ := q
  refine wS_st (st' := [vI ((rPov s ((xs (i + 1).toNat).toInt)).1), vI ((rPov s ((xs (i + 1).toNat).toInt)).1)]) rfl ?_
  exact wS_icmp_eq 1158 rfl dL_law_555 (fun _ => k g2 _ (BS_m (s := s) x1 m2 c2)) (fun c => absurd rfl c)
theorem lwC_16 (hL : L ≤ 2560) (hR : zFit R 0 369 30) (i0 : 0 ≤ i) (i1 : i + 5 ≤ L) (B : BS h s) (k : ∀ g t, BS g t → wqS b G R Z (zXs b L xs) (Ml nm) 0 369 1158 [(1, vR 1), (2, vR 343), (3, vI i)] [] g) : wqS b G R Z (zXs b L xs) (Ml nm) 0 369 560 [(1, vR 1), (2, vR 343), (3, vI i)] [] h := by
  refine wS_aload_n 0 rfl rfl dL_law_560 ?_
  refine wS_ld 2 hL rfl (by omega) (by omega) dL_law_561 dL_law_562 dL_law_563 dL_law_564 dL_law_565 ?_
  refine wS_ld 2 hL rfl (by omega) (by omega) dL_law_566 dL_law_567 dL_law_568 dL_law_569 dL_law_570 ?_
  refine wS_ld 2 hL rfl (by omega) (by omega) dL_law_571 dL_law_572 dL_law_573 dL_law_574 dL_law_575 ?_
  refine wS_V (As := [vI (xs (i + 1).toNat).toInt, vI (xs (i + 2).toNat).toInt, vI (xs (i + 3).toNat).toInt]) vm_X10_lay lk_L_81 tT_1 rfl rfl (Nat.le_of_ble_eq_true rfl) (Nat.le_of_ble_eq_true rfl) hR dL_law_576 (yx_lay (Q := fun v g => v = some (vI ((rLay s ((xs (i + 1).toNat).toInt) ((xs (i + 2).toNat).toInt) ((xs (i + 3).toNat).toInt)).1)) ∧ XS g ((rLay s ((xs (i + 1).toNat).toInt) ((xs (i + 2).toNat).toInt) ((xs (i + 3).toNat).toInt)).2) ∧ xcF h g) (by omega) B.1 (fun g a1 a2 => ⟨rfl, a1, a2⟩)) (fun v g1 q => ?_)
  obtain ⟨rfl, x1, c1⟩ := q
  refine wS_st (st' := [vI ((rLay s ((xs (i + 1).toNat).toInt) ((xs (i + 2).toNat).toInt) ((xs (i + 3).toNat).toInt)).1)]) rfl ?_
  refine wS_aload_n 1 rfl rfl dL_law_579 ?_
  refine wS_ld 2 hL rfl (by omega) (by omega) dL_law_580 dL_law_581 dL_law_582 dL_law_583 dL_law_584 ?_
  refine wS_ld 2 hL rfl (by omega) (by omega) dL_law_585 dL_law_586 dL_law_587 dL_law_588 dL_law_589 ?_
  refine wS_ld 2 hL rfl (by omega) (by omega) dL_law_590 dL_law_591 dL_law_592 dL_law_593 dL_law_594 ?_
  refine wS_V (As := [vI (xs (i + 1).toNat).toInt, vI (xs (i + 2).toNat).toInt, vI (xs (i + 3).toNat).toInt]) vm_X11_lay lk_L_84 tT_343 rfl rfl (Nat.le_of_ble_eq_true rfl) (Nat.le_of_ble_eq_true rfl) hR dL_law_595 (ym_lay (Q := fun v g => v = some (vI ((rLay s ((xs (i + 1).toNat).toInt) ((xs (i + 2).toNat).toInt) ((xs (i + 3).toNat).toInt)).1)) ∧ MS g ((rLay s ((xs (i + 1).toNat).toInt) ((xs (i + 2).toNat).toInt) ((xs (i + 3).toNat).toInt)).2) ∧ mcF g1 g) (by omega) (MS_x c1 x1.1.1 B.2) (fun g a1 a2 => ⟨rfl, a1, a2⟩)) (fun v g2 q => ?_)
  obtain ⟨rfl, m2, c2⟩ := q
  refine wS_st (st' := [vI ((rLay s ((xs (i + 1).toNat).toInt) ((xs (i + 2).toNat).toInt) ((xs (i + 3).toNat).toInt)).1), vI ((rLay s ((xs (i + 1).toNat).toInt) ((xs (i + 2).toNat).toInt) ((xs (i + 3).toNat).toInt)).1)]) rfl ?_
  exact wS_icmp_eq 1158 rfl dL_law_598 (fun _ => k g2 _ (BS_m (s := s) x1 m2 c2)) (fun c => absurd rfl c)
theorem lwC_17 (hL : L ≤ 2560) (hR : zFit R 0 369 30) (i0 : 0 ≤ i) (i1 : i + 5 ≤ L) (B : BS h s) (k : ∀ g t, BS g t → wqS b G R Z (zXs b L xs) (Ml nm) 0 369 1158 [(1, vR 1), (2, vR 343), (3, vI i)] [] g) : wqS b G R Z (zXs b L xs) (Ml nm) 0 369 603 [(1, vR 1), (2, vR 343), (3, vI i)] [] h := by
  refine wS_aload_n 0 rfl rfl dL_law_603 ?_
  refine wS_ld 2 hL rfl (by omega) (by omega) dL_law_604 dL_law_605 dL_law_606 dL_law_607 dL_law_608 ?_
  refine wS_V (As := [vI (xs (i + 1).toNat).toInt]) vm_X10_remove lk_L_85 tT_1 rfl rfl (Nat.le_of_ble_eq_true rfl) (Nat.le_of_ble_eq_true rfl) hR dL_law_609 (yx_remove (Q := fun v g => v = some (vI ((rRem s ((xs (i + 1).toNat).toInt)).1)) ∧ XS g ((rRem s ((xs (i + 1).toNat).toInt)).2) ∧ xcF h g) (by omega) B.1 (fun g a1 a2 => ⟨rfl, a1, a2⟩)) (fun v g1 q => ?_)
  obtain ⟨rfl, x1, c1⟩ := q
  refine wS_st (st' := [vI ((rRem s ((xs (i + 1).toNat).toInt)).1)]) rfl ?_
  refine wS_aload_n 1 rfl rfl dL_law_612 ?_
  refine wS_ld 2 hL rfl (by omega) (by omega) dL_law_613 dL_law_614 dL_law_615 dL_law_616 dL_law_617 ?_
  refine wS_V (As := [vI (xs (i + 1).toNat).toInt]) vm_X11_remove lk_L_88 tT_343 rfl rfl (Nat.le_of_ble_eq_true rfl) (Nat.le_of_ble_eq_true rfl) hR dL_law_618 (ym_remove (Q := fun v g => v = some (vI ((rRem s ((xs (i + 1).toNat).toInt)).1)) ∧ MS g ((rRem s ((xs (i + 1).toNat).toInt)).2) ∧ mcF g1 g) (by omega) (MS_x c1 x1.1.1 B.2) (fun g a1 a2 => ⟨rfl, a1, a2⟩)) (fun v g2 q => ?_)
  obtain ⟨rfl, m2, c2⟩ := q
  refine wS_st (st' := [vI ((rRem s ((xs (i + 1).toNat).toInt)).1), vI ((rRem s ((xs (i + 1).toNat).toInt)).1)]) rfl ?_
  exact wS_icmp_eq 1158 rfl dL_law_621 (fun _ => k g2 _ (BS_m (s := s) x1 m2 c2)) (fun c => absurd rfl c)
theorem lwC_18 (hL : L ≤ 2560) (hR : zFit R 0 369 30) (i0 : 0 ≤ i) (i1 : i + 5 ≤ L) (B : BS h s) (k : ∀ g t, BS g t → wqS b G R Z (zXs b L xs) (Ml nm) 0 369 1158 [(1, vR 1), (2, vR 343), (3, vI i)] [] g) : wqS b G R Z (zXs b L xs) (Ml nm) 0 369 626 [(1, vR 1), (2, vR 343), (3, vI i)] [] h := by
  refine wS_aload_n 0 rfl rfl dL_law_626 ?_
  refine wS_ld 2 hL rfl (by omega) (by omega) dL_law_627 dL_law_628 dL_law_629 dL_law_630 dL_law_631 ?_
  refine wS_ld 2 hL rfl (by omega) (by omega) dL_law_632 dL_law_633 dL_law_634 dL_law_635 dL_law_636 ?_
  refine wS_V (As := [vI (xs (i + 1).toNat).toInt, vI (xs (i + 2).toNat).toInt]) vm_X10_overlay lk_L_89 tT_1 rfl rfl (Nat.le_of_ble_eq_true rfl) (Nat.le_of_ble_eq_true rfl) hR dL_law_637 (yx_overlay (Q := fun v g => v = some (vI ((rOvl s ((xs (i + 1).toNat).toInt) ((xs (i + 2).toNat).toInt)))) ∧ XS g (s) ∧ xcF h g) (by omega) B.1 (fun g a1 a2 => ⟨rfl, a1, a2⟩)) (fun v g1 q => ?_)
  obtain ⟨rfl, x1, c1⟩ := q
  refine wS_st (st' := [vI ((rOvl s ((xs (i + 1).toNat).toInt) ((xs (i + 2).toNat).toInt)))]) rfl ?_
  refine wS_aload_n 1 rfl rfl dL_law_640 ?_
  refine wS_ld 2 hL rfl (by omega) (by omega) dL_law_641 dL_law_642 dL_law_643 dL_law_644 dL_law_645 ?_
  refine wS_ld 2 hL rfl (by omega) (by omega) dL_law_646 dL_law_647 dL_law_648 dL_law_649 dL_law_650 ?_
  refine wS_V (As := [vI (xs (i + 1).toNat).toInt, vI (xs (i + 2).toNat).toInt]) vm_X11_overlay lk_L_92 tT_343 rfl rfl (Nat.le_of_ble_eq_true rfl) (Nat.le_of_ble_eq_true rfl) hR dL_law_651 (ym_overlay (Q := fun v g => v = some (vI ((rOvl s ((xs (i + 1).toNat).toInt) ((xs (i + 2).toNat).toInt)))) ∧ MS g (s) ∧ mcF g1 g) (by omega) (MS_x c1 x1.1.1 B.2) (fun g a1 a2 => ⟨rfl, a1, a2⟩)) (fun v g2 q => ?_)
  obtain ⟨rfl, m2, c2⟩ := q
  refine wS_st (st' := [vI ((rOvl s ((xs (i + 1).toNat).toInt) ((xs (i + 2).toNat).toInt))), vI ((rOvl s ((xs (i + 1).toNat).toInt) ((xs (i + 2).toNat).toInt)))]) rfl ?_
  exact wS_icmp_eq 1158 rfl dL_law_654 (fun _ => k g2 _ (BS_m (s := s) x1 m2 c2)) (fun c => absurd rfl c)
theorem lwC_19 (hL : L ≤ 2560) (hR : zFit R 0 369 30) (i0 : 0 ≤ i) (i1 : i + 5 ≤ L) (B : BS h s) (k : ∀ g t, BS g t → wqS b G R Z (zXs b L xs) (Ml nm) 0 369 1158 [(1, vR 1), (2, vR 343), (3, vI i)] [] g) : wqS b G R Z (zXs b L xs) (Ml nm) 0 369 659 [(1, vR 1), (2, vR 343), (3, vI i)] [] h := by
  refine wS_aload_n 0 rfl rfl dL_law_659 ?_
  refine wS_ld 2 hL rfl (by omega) (by omega) dL_law_660 dL_law_661 dL_law_662 dL_law_663 dL_law_664 ?_
  refine wS_ld 2 hL rfl (by omega) (by omega) dL_law_665 dL_law_666 dL_law_667 dL_law_668 dL_law_669 ?_
  refine wS_ld 2 hL rfl (by omega) (by omega) dL_law_670 dL_law_671 dL_law_672 dL_law_673 dL_law_674 ?_
  refine wS_V (As := [vI (xs (i + 1).toNat).toInt, vI (xs (i + 2).toNat).toInt, vI (xs (i + 3).toNat).toInt]) vm_X10_field lk_L_93 tT_1 rfl rfl (Nat.le_of_ble_eq_true rfl) (Nat.le_of_ble_eq_true rfl) hR dL_law_675 (yx_field (Q := fun v g => v = some (vI ((rFld s ((xs (i + 1).toNat).toInt) ((xs (i + 2).toNat).toInt) ((xs (i + 3).toNat).toInt)))) ∧ XS g (s) ∧ xcF h g) (by omega) B.1 (fun g a1 a2 => ⟨rfl, a1, a2⟩)) (fun v g1 q => ?_)
  obtain ⟨rfl, x1, c1⟩ := q
  refine wS_st (st' := [vI ((rFld s ((xs (i + 1).toNat).toInt) ((xs (i + 2).toNat).toInt) ((xs (i + 3).toNat).toInt)))]) rfl ?_
  refine wS_aload_n 1 rfl rfl dL_law_678 ?_
  refine wS_ld 2 hL rfl (by omega) (by omega) dL_law_679 dL_law_680 dL_law_681 dL_law_682 dL_law_683 ?_
  refine wS_ld 2 hL rfl (by omega) (by omega) dL_law_684 dL_law_685 dL_law_686 dL_law_687 dL_law_688 ?_
  refine wS_ld 2 hL rfl (by omega) (by omega) dL_law_689 dL_law_690 dL_law_691 dL_law_692 dL_law_693 ?_
  refine wS_V (As := [vI (xs (i + 1).toNat).toInt, vI (xs (i + 2).toNat).toInt, vI (xs (i + 3).toNat).toInt]) vm_X11_field lk_L_96 tT_343 rfl rfl (Nat.le_of_ble_eq_true rfl) (Nat.le_of_ble_eq_true rfl) hR dL_law_694 (ym_field (Q := fun v g => v = some (vI ((rFld s ((xs (i + 1).toNat).toInt) ((xs (i + 2).toNat).toInt) ((xs (i + 3).toNat).toInt)))) ∧ MS g (s) ∧ mcF g1 g) (by omega) (MS_x c1 x1.1.1 B.2) (fun g a1 a2 => ⟨rfl, a1, a2⟩)) (fun v g2 q => ?_)
  obtain ⟨rfl, m2, c2⟩ := q
  refine wS_st (st' := [vI ((rFld s ((xs (i + 1).toNat).toInt) ((xs (i + 2).toNat).toInt) ((xs (i + 3).toNat).toInt))), vI ((rFld s ((xs (i + 1).toNat).toInt) ((xs (i + 2).toNat).toInt) ((xs (i + 3).toNat).toInt)))]) rfl ?_
  exact wS_icmp_eq 1158 rfl dL_law_697 (fun _ => k g2 _ (BS_m (s := s) x1 m2 c2)) (fun c => absurd rfl c)
theorem lwC_20 (hL : L ≤ 2560) (hR : zFit R 0 369 30) (i0 : 0 ≤ i) (i1 : i + 5 ≤ L) (B : BS h s) (k : ∀ g t, BS g t → wqS b G R Z (zXs b L xs) (Ml nm) 0 369 1158 [(1, vR 1), (2, vR 343), (3, vI i)] [] g) : wqS b G R Z (zXs b L xs) (Ml nm) 0 369 702 [(1, vR 1), (2, vR 343), (3, vI i)] [] h := by
  refine wS_aload_n 0 rfl rfl dL_law_702 ?_
  refine wS_ld 2 hL rfl (by omega) (by omega) dL_law_703 dL_law_704 dL_law_705 dL_law_706 dL_law_707 ?_
  refine wS_ld 2 hL rfl (by omega) (by omega) dL_law_708 dL_law_709 dL_law_710 dL_law_711 dL_law_712 ?_
  refine wS_V (As := [vI (xs (i + 1).toNat).toInt, vI (xs (i + 2).toNat).toInt]) vm_X10_value lk_L_97 tT_1 rfl rfl (Nat.le_of_ble_eq_true rfl) (Nat.le_of_ble_eq_true rfl) hR dL_law_713 (yx_value (Q := fun v g => v = some (vL ((rVal s ((xs (i + 1).toNat).toInt) ((xs (i + 2).toNat).toInt)))) ∧ XS g (s) ∧ xcF h g) (by omega) B.1 (fun g a1 a2 => ⟨rfl, a1, a2⟩)) (fun v g1 q => ?_)
  obtain ⟨rfl, x1, c1⟩ := q
  refine wS_st (st' := [vL ((rVal s ((xs (i + 1).toNat).toInt) ((xs (i + 2).toNat).toInt)))]) rfl ?_
  refine wS_aload_n 1 rfl rfl dL_law_716 ?_
  refine wS_ld 2 hL rfl (by omega) (by omega) dL_law_717 dL_law_718 dL_law_719 dL_law_720 dL_law_721 ?_
  refine wS_ld 2 hL rfl (by omega) (by omega) dL_law_722 dL_law_723 dL_law_724 dL_law_725 dL_law_726 ?_
  refine wS_V (As := [vI (xs (i + 1).toNat).toInt, vI (xs (i + 2).toNat).toInt]) vm_X11_value lk_L_101 tT_343 rfl rfl (Nat.le_of_ble_eq_true rfl) (Nat.le_of_ble_eq_true rfl) hR dL_law_727 (ym_value (Q := fun v g => v = some (vL ((rVal s ((xs (i + 1).toNat).toInt) ((xs (i + 2).toNat).toInt)))) ∧ MS g (s) ∧ mcF g1 g) (by omega) (MS_x c1 x1.1.1 B.2) (fun g a1 a2 => ⟨rfl, a1, a2⟩)) (fun v g2 q => ?_)
  obtain ⟨rfl, m2, c2⟩ := q
  refine wS_st (st' := [vL ((rVal s ((xs (i + 1).toNat).toInt) ((xs (i + 2).toNat).toInt))), vL ((rVal s ((xs (i + 1).toNat).toInt) ((xs (i + 2).toNat).toInt)))]) rfl ?_
  exact wS_lcmp_eq 1158 rfl dL_law_730 dL_law_731 (fun _ => k g2 _ (BS_m (s := s) x1 m2 c2)) (fun c => absurd rfl c)
theorem lwC_21 (hL : L ≤ 2560) (hR : zFit R 0 369 30) (i0 : 0 ≤ i) (i1 : i + 5 ≤ L) (B : BS h s) (k : ∀ g t, BS g t → wqS b G R Z (zXs b L xs) (Ml nm) 0 369 1158 [(1, vR 1), (2, vR 343), (3, vI i)] [] g) : wqS b G R Z (zXs b L xs) (Ml nm) 0 369 736 [(1, vR 1), (2, vR 343), (3, vI i)] [] h := by
  refine wS_aload_n 0 rfl rfl dL_law_736 ?_
  refine wS_ld 2 hL rfl (by omega) (by omega) dL_law_737 dL_law_738 dL_law_739 dL_law_740 dL_law_741 ?_
  refine wS_ld 2 hL rfl (by omega) (by omega) dL_law_742 dL_law_743 dL_law_744 dL_law_745 dL_law_746 ?_
  refine wS_ld 2 hL rfl (by omega) (by omega) dL_law_747 dL_law_748 dL_law_749 dL_law_750 dL_law_751 ?_
  refine wS_V (As := [vI (xs (i + 1).toNat).toInt, vI (xs (i + 2).toNat).toInt, vI (xs (i + 3).toNat).toInt]) vm_X10_path lk_L_102 tT_1 rfl rfl (Nat.le_of_ble_eq_true rfl) (Nat.le_of_ble_eq_true rfl) hR dL_law_752 (yx_path (Q := fun v g => v = some (vI ((rPth s ((xs (i + 1).toNat).toInt) ((xs (i + 2).toNat).toInt) ((xs (i + 3).toNat).toInt)))) ∧ XS g (s) ∧ xcF h g) (by omega) B.1 (fun g a1 a2 => ⟨rfl, a1, a2⟩)) (fun v g1 q => ?_)
  obtain ⟨rfl, x1, c1⟩ := q
  refine wS_st (st' := [vI ((rPth s ((xs (i + 1).toNat).toInt) ((xs (i + 2).toNat).toInt) ((xs (i + 3).toNat).toInt)))]) rfl ?_
  refine wS_aload_n 1 rfl rfl dL_law_755 ?_
  refine wS_ld 2 hL rfl (by omega) (by omega) dL_law_756 dL_law_757 dL_law_758 dL_law_759 dL_law_760 ?_
  refine wS_ld 2 hL rfl (by omega) (by omega) dL_law_761 dL_law_762 dL_law_763 dL_law_764 dL_law_765 ?_
  refine wS_ld 2 hL rfl (by omega) (by omega) dL_law_766 dL_law_767 dL_law_768 dL_law_769 dL_law_770 ?_
  refine wS_V (As := [vI (xs (i + 1).toNat).toInt, vI (xs (i + 2).toNat).toInt, vI (xs (i + 3).toNat).toInt]) vm_X11_path lk_L_105 tT_343 rfl rfl (Nat.le_of_ble_eq_true rfl) (Nat.le_of_ble_eq_true rfl) hR dL_law_771 (ym_path (Q := fun v g => v = some (vI ((rPth s ((xs (i + 1).toNat).toInt) ((xs (i + 2).toNat).toInt) ((xs (i + 3).toNat).toInt)))) ∧ MS g (s) ∧ mcF g1 g) (by omega) (MS_x c1 x1.1.1 B.2) (fun g a1 a2 => ⟨rfl, a1, a2⟩)) (fun v g2 q => ?_)
  obtain ⟨rfl, m2, c2⟩ := q
  refine wS_st (st' := [vI ((rPth s ((xs (i + 1).toNat).toInt) ((xs (i + 2).toNat).toInt) ((xs (i + 3).toNat).toInt))), vI ((rPth s ((xs (i + 1).toNat).toInt) ((xs (i + 2).toNat).toInt) ((xs (i + 3).toNat).toInt)))]) rfl ?_
  exact wS_icmp_eq 1158 rfl dL_law_774 (fun _ => k g2 _ (BS_m (s := s) x1 m2 c2)) (fun c => absurd rfl c)
theorem lwC_22 (hL : L ≤ 2560) (hR : zFit R 0 369 30) (i0 : 0 ≤ i) (i1 : i + 5 ≤ L) (B : BS h s) (k : ∀ g t, BS g t → wqS b G R Z (zXs b L xs) (Ml nm) 0 369 1158 [(1, vR 1), (2, vR 343), (3, vI i)] [] g) : wqS b G R Z (zXs b L xs) (Ml nm) 0 369 779 [(1, vR 1), (2, vR 343), (3, vI i)] [] h := by
  refine wS_aload_n 0 rfl rfl dL_law_779 ?_
  refine wS_ld 2 hL rfl (by omega) (by omega) dL_law_780 dL_law_781 dL_law_782 dL_law_783 dL_law_784 ?_
  refine wS_ld 2 hL rfl (by omega) (by omega) dL_law_785 dL_law_786 dL_law_787 dL_law_788 dL_law_789 ?_
  refine wS_V (As := [vI (xs (i + 1).toNat).toInt, vI (xs (i + 2).toNat).toInt]) vm_X10_fieldAt lk_L_106 tT_1 rfl rfl (Nat.le_of_ble_eq_true rfl) (Nat.le_of_ble_eq_true rfl) hR dL_law_790 (yx_fieldAt (Q := fun v g => v = some (vI ((rFAt s ((xs (i + 1).toNat).toInt) ((xs (i + 2).toNat).toInt)))) ∧ XS g (s) ∧ xcF h g) (by omega) B.1 (fun g a1 a2 => ⟨rfl, a1, a2⟩)) (fun v g1 q => ?_)
  obtain ⟨rfl, x1, c1⟩ := q
  refine wS_st (st' := [vI ((rFAt s ((xs (i + 1).toNat).toInt) ((xs (i + 2).toNat).toInt)))]) rfl ?_
  refine wS_aload_n 1 rfl rfl dL_law_793 ?_
  refine wS_ld 2 hL rfl (by omega) (by omega) dL_law_794 dL_law_795 dL_law_796 dL_law_797 dL_law_798 ?_
  refine wS_ld 2 hL rfl (by omega) (by omega) dL_law_799 dL_law_800 dL_law_801 dL_law_802 dL_law_803 ?_
  refine wS_V (As := [vI (xs (i + 1).toNat).toInt, vI (xs (i + 2).toNat).toInt]) vm_X11_fieldAt lk_L_109 tT_343 rfl rfl (Nat.le_of_ble_eq_true rfl) (Nat.le_of_ble_eq_true rfl) hR dL_law_804 (ym_fieldAt (Q := fun v g => v = some (vI ((rFAt s ((xs (i + 1).toNat).toInt) ((xs (i + 2).toNat).toInt)))) ∧ MS g (s) ∧ mcF g1 g) (by omega) (MS_x c1 x1.1.1 B.2) (fun g a1 a2 => ⟨rfl, a1, a2⟩)) (fun v g2 q => ?_)
  obtain ⟨rfl, m2, c2⟩ := q
  refine wS_st (st' := [vI ((rFAt s ((xs (i + 1).toNat).toInt) ((xs (i + 2).toNat).toInt))), vI ((rFAt s ((xs (i + 1).toNat).toInt) ((xs (i + 2).toNat).toInt)))]) rfl ?_
  exact wS_icmp_eq 1158 rfl dL_law_807 (fun _ => k g2 _ (BS_m (s := s) x1 m2 c2)) (fun c => absurd rfl c)
theorem lwC_23 (hL : L ≤ 2560) (hR : zFit R 0 369 30) (i0 : 0 ≤ i) (i1 : i + 5 ≤ L) (B : BS h s) (k : ∀ g t, BS g t → wqS b G R Z (zXs b L xs) (Ml nm) 0 369 1158 [(1, vR 1), (2, vR 343), (3, vI i)] [] g) : wqS b G R Z (zXs b L xs) (Ml nm) 0 369 812 [(1, vR 1), (2, vR 343), (3, vI i)] [] h := by
  refine wS_aload_n 0 rfl rfl dL_law_812 ?_
  refine wS_ld 2 hL rfl (by omega) (by omega) dL_law_813 dL_law_814 dL_law_815 dL_law_816 dL_law_817 ?_
  refine wS_ld 2 hL rfl (by omega) (by omega) dL_law_818 dL_law_819 dL_law_820 dL_law_821 dL_law_822 ?_
  refine wS_ld 2 hL rfl (by omega) (by omega) dL_law_823 dL_law_824 dL_law_825 dL_law_826 dL_law_827 ?_
  refine wS_V (As := [vI (xs (i + 1).toNat).toInt, vI (xs (i + 2).toNat).toInt, vI (xs (i + 3).toNat).toInt]) vm_X10_counterpart lk_L_110 tT_1 rfl rfl (Nat.le_of_ble_eq_true rfl) (Nat.le_of_ble_eq_true rfl) hR dL_law_828 (yx_counterpart (Q := fun v g => v = some (vI ((rCpt s ((xs (i + 1).toNat).toInt) ((xs (i + 2).toNat).toInt) ((xs (i + 3).toNat).toInt)))) ∧ XS g (s) ∧ xcF h g) (by omega) B.1 (fun g a1 a2 => ⟨rfl, a1, a2⟩)) (fun v g1 q => ?_)
  obtain ⟨rfl, x1, c1⟩ := q
  refine wS_st (st' := [vI ((rCpt s ((xs (i + 1).toNat).toInt) ((xs (i + 2).toNat).toInt) ((xs (i + 3).toNat).toInt)))]) rfl ?_
  refine wS_aload_n 1 rfl rfl dL_law_831 ?_
  refine wS_ld 2 hL rfl (by omega) (by omega) dL_law_832 dL_law_833 dL_law_834 dL_law_835 dL_law_836 ?_
  refine wS_ld 2 hL rfl (by omega) (by omega) dL_law_837 dL_law_838 dL_law_839 dL_law_840 dL_law_841 ?_
  refine wS_ld 2 hL rfl (by omega) (by omega) dL_law_842 dL_law_843 dL_law_844 dL_law_845 dL_law_846 ?_
  refine wS_V (As := [vI (xs (i + 1).toNat).toInt, vI (xs (i + 2).toNat).toInt, vI (xs (i + 3).toNat).toInt]) vm_X11_counterpart lk_L_113 tT_343 rfl rfl (Nat.le_of_ble_eq_true rfl) (Nat.le_of_ble_eq_true rfl) hR dL_law_847 (ym_counterpart (Q := fun v g => v = some (vI ((rCpt s ((xs (i + 1).toNat).toInt) ((xs (i + 2).toNat).toInt) ((xs (i + 3).toNat).toInt)))) ∧ MS g (s) ∧ mcF g1 g) (by omega) (MS_x c1 x1.1.1 B.2) (fun g a1 a2 => ⟨rfl, a1, a2⟩)) (fun v g2 q => ?_)
  obtain ⟨rfl, m2, c2⟩ := q
  refine wS_st (st' := [vI ((rCpt s ((xs (i + 1).toNat).toInt) ((xs (i + 2).toNat).toInt) ((xs (i + 3).toNat).toInt))), vI ((rCpt s ((xs (i + 1).toNat).toInt) ((xs (i + 2).toNat).toInt) ((xs (i + 3).toNat).toInt)))]) rfl ?_
  exact wS_icmp_eq 1158 rfl dL_law_850 (fun _ => k g2 _ (BS_m (s := s) x1 m2 c2)) (fun c => absurd rfl c)
theorem lwC_24 (hL : L ≤ 2560) (hR : zFit R 0 369 30) (i0 : 0 ≤ i) (i1 : i + 5 ≤ L) (B : BS h s) (k : ∀ g t, BS g t → wqS b G R Z (zXs b L xs) (Ml nm) 0 369 1158 [(1, vR 1), (2, vR 343), (3, vI i)] [] g) : wqS b G R Z (zXs b L xs) (Ml nm) 0 369 855 [(1, vR 1), (2, vR 343), (3, vI i)] [] h := by
  refine wS_aload_n 0 rfl rfl dL_law_855 ?_
  refine wS_ld 2 hL rfl (by omega) (by omega) dL_law_856 dL_law_857 dL_law_858 dL_law_859 dL_law_860 ?_
  refine wS_ld 2 hL rfl (by omega) (by omega) dL_law_861 dL_law_862 dL_law_863 dL_law_864 dL_law_865 ?_
  refine wS_ld 2 hL rfl (by omega) (by omega) dL_law_866 dL_law_867 dL_law_868 dL_law_869 dL_law_870 ?_
  refine wS_i2l dL_law_871 ?_
  refine wS_bipush (z := 32) (zlit rfl) rfl dL_law_872 ?_
  refine wS_lshl dL_law_874 ?_
  refine wS_ld 2 hL rfl (by omega) (by omega) dL_law_875 dL_law_876 dL_law_877 dL_law_878 dL_law_879 ?_
  refine wS_i2l dL_law_880 ?_
  refine wS_ldc2_w (z := 4294967295) (zlitL rfl) kc_L_114 dL_law_881 ?_
  refine wS_land dL_law_884 ?_
  refine wS_lor dL_law_885 ?_
  refine wS_V (As := [vI (xs (i + 1).toNat).toInt, vI (xs (i + 2).toNat).toInt, vL (zorL ((zshl ((xs (i + 3).toNat).toInt) (32))) ((zandL ((xs (i + 4).toNat).toInt) (4294967295))))]) vm_X10_setField lk_L_116 tT_1 rfl rfl (Nat.le_of_ble_eq_true rfl) (Nat.le_of_ble_eq_true rfl) hR dL_law_886 (yx_setField (Q := fun v g => v = some (vI ((rSet s ((xs (i + 1).toNat).toInt) ((xs (i + 2).toNat).toInt) ((zorL ((zshl ((xs (i + 3).toNat).toInt) (32))) ((zandL ((xs (i + 4).toNat).toInt) (4294967295)))))).1)) ∧ XS g ((rSet s ((xs (i + 1).toNat).toInt) ((xs (i + 2).toNat).toInt) ((zorL ((zshl ((xs (i + 3).toNat).toInt) (32))) ((zandL ((xs (i + 4).toNat).toInt) (4294967295)))))).2) ∧ xcF h g) (by omega) (zl_rng _) B.1 (fun g a1 a2 => ⟨rfl, a1, a2⟩)) (fun v g1 q => ?_)
  obtain ⟨rfl, x1, c1⟩ := q
  refine wS_st (st' := [vI ((rSet s ((xs (i + 1).toNat).toInt) ((xs (i + 2).toNat).toInt) ((zorL ((zshl ((xs (i + 3).toNat).toInt) (32))) ((zandL ((xs (i + 4).toNat).toInt) (4294967295)))))).1)]) rfl ?_
  refine wS_aload_n 1 rfl rfl dL_law_889 ?_
  refine wS_ld 2 hL rfl (by omega) (by omega) dL_law_890 dL_law_891 dL_law_892 dL_law_893 dL_law_894 ?_
  refine wS_ld 2 hL rfl (by omega) (by omega) dL_law_895 dL_law_896 dL_law_897 dL_law_898 dL_law_899 ?_
  refine wS_ld 2 hL rfl (by omega) (by omega) dL_law_900 dL_law_901 dL_law_902 dL_law_903 dL_law_904 ?_
  refine wS_i2l dL_law_905 ?_
  refine wS_bipush (z := 32) (zlit rfl) rfl dL_law_906 ?_
  refine wS_lshl dL_law_908 ?_
  refine wS_ld 2 hL rfl (by omega) (by omega) dL_law_909 dL_law_910 dL_law_911 dL_law_912 dL_law_913 ?_
  refine wS_i2l dL_law_914 ?_
  refine wS_ldc2_w (z := 4294967295) (zlitL rfl) kc_L_114 dL_law_915 ?_
  refine wS_land dL_law_918 ?_
  refine wS_lor dL_law_919 ?_
  refine wS_V (As := [vI (xs (i + 1).toNat).toInt, vI (xs (i + 2).toNat).toInt, vL (zorL ((zshl ((xs (i + 3).toNat).toInt) (32))) ((zandL ((xs (i + 4).toNat).toInt) (4294967295))))]) vm_X11_setField lk_L_120 tT_343 rfl rfl (Nat.le_of_ble_eq_true rfl) (Nat.le_of_ble_eq_true rfl) hR dL_law_920 (ym_setField (Q := fun v g => v = some (vI ((rSet s ((xs (i + 1).toNat).toInt) ((xs (i + 2).toNat).toInt) ((zorL ((zshl ((xs (i + 3).toNat).toInt) (32))) ((zandL ((xs (i + 4).toNat).toInt) (4294967295)))))).1)) ∧ MS g ((rSet s ((xs (i + 1).toNat).toInt) ((xs (i + 2).toNat).toInt) ((zorL ((zshl ((xs (i + 3).toNat).toInt) (32))) ((zandL ((xs (i + 4).toNat).toInt) (4294967295)))))).2) ∧ mcF g1 g) (by omega) (zl_rng _) (MS_x c1 x1.1.1 B.2) (fun g a1 a2 => ⟨rfl, a1, a2⟩)) (fun v g2 q => ?_)
  obtain ⟨rfl, m2, c2⟩ := q
  refine wS_st (st' := [vI ((rSet s ((xs (i + 1).toNat).toInt) ((xs (i + 2).toNat).toInt) ((zorL ((zshl ((xs (i + 3).toNat).toInt) (32))) ((zandL ((xs (i + 4).toNat).toInt) (4294967295)))))).1), vI ((rSet s ((xs (i + 1).toNat).toInt) ((xs (i + 2).toNat).toInt) ((zorL ((zshl ((xs (i + 3).toNat).toInt) (32))) ((zandL ((xs (i + 4).toNat).toInt) (4294967295)))))).1)]) rfl ?_
  exact wS_icmp_eq 1158 rfl dL_law_923 (fun _ => k g2 _ (BS_m (s := s) x1 m2 c2)) (fun c => absurd rfl c)
theorem lwC_25 (hL : L ≤ 2560) (hR : zFit R 0 369 30) (i0 : 0 ≤ i) (i1 : i + 5 ≤ L) (B : BS h s) (k : ∀ g t, BS g t → wqS b G R Z (zXs b L xs) (Ml nm) 0 369 1158 [(1, vR 1), (2, vR 343), (3, vI i)] [] g) : wqS b G R Z (zXs b L xs) (Ml nm) 0 369 928 [(1, vR 1), (2, vR 343), (3, vI i)] [] h := by
  refine wS_aload_n 0 rfl rfl dL_law_928 ?_
  refine wS_ld 2 hL rfl (by omega) (by omega) dL_law_929 dL_law_930 dL_law_931 dL_law_932 dL_law_933 ?_
  refine wS_bool dL_law_934 dL_law_937 dL_law_938 dL_law_941 ?_
  have hp : ((if (xs (i + 1).toNat).toInt = 0 then 0 else 1) : Int) = 0 ∨ ((if (xs (i + 1).toNat).toInt = 0 then 0 else 1) : Int) = 1 := by
    split
    · exact Or.inl rfl
    · exact Or.inr rfl
  refine wS_V (As := [vI (if (xs (i + 1).toNat).toInt = 0 then 0 else 1)]) vm_X10_follow lk_L_121 tT_1 rfl rfl (Nat.le_of_ble_eq_true rfl) (Nat.le_of_ble_eq_true rfl) hR dL_law_942 (yx_follow (Q := fun v g => v = some (vI ((rFol s ((if (xs (i + 1).toNat).toInt = 0 then 0 else 1))).1)) ∧ XS g ((rFol s ((if (xs (i + 1).toNat).toInt = 0 then 0 else 1))).2) ∧ xcF h g) hp B.1 (fun g a1 a2 => ⟨rfl, a1, a2⟩)) (fun v g1 q => ?_)
  obtain ⟨rfl, x1, c1⟩ := q
  refine wS_st (st' := [vI ((rFol s ((if (xs (i + 1).toNat).toInt = 0 then 0 else 1))).1)]) rfl ?_
  refine wS_aload_n 1 rfl rfl dL_law_945 ?_
  refine wS_ld 2 hL rfl (by omega) (by omega) dL_law_946 dL_law_947 dL_law_948 dL_law_949 dL_law_950 ?_
  refine wS_bool dL_law_951 dL_law_954 dL_law_955 dL_law_958 ?_
  refine wS_V (As := [vI (if (xs (i + 1).toNat).toInt = 0 then 0 else 1)]) vm_X11_follow lk_L_125 tT_343 rfl rfl (Nat.le_of_ble_eq_true rfl) (Nat.le_of_ble_eq_true rfl) hR dL_law_959 (ym_follow (Q := fun v g => v = some (vI ((rFol s ((if (xs (i + 1).toNat).toInt = 0 then 0 else 1))).1)) ∧ MS g ((rFol s ((if (xs (i + 1).toNat).toInt = 0 then 0 else 1))).2) ∧ mcF g1 g) hp (MS_x c1 x1.1.1 B.2) (fun g a1 a2 => ⟨rfl, a1, a2⟩)) (fun v g2 q => ?_)
  obtain ⟨rfl, m2, c2⟩ := q
  refine wS_st (st' := [vI ((rFol s ((if (xs (i + 1).toNat).toInt = 0 then 0 else 1))).1), vI ((rFol s ((if (xs (i + 1).toNat).toInt = 0 then 0 else 1))).1)]) rfl ?_
  exact wS_icmp_eq 1158 rfl dL_law_962 (fun _ => k g2 _ (BS_m (s := s) x1 m2 c2)) (fun c => absurd rfl c)
theorem lwC_26 (hL : L ≤ 2560) (hR : zFit R 0 369 30) (i0 : 0 ≤ i) (i1 : i + 5 ≤ L) (B : BS h s) (k : ∀ g t, BS g t → wqS b G R Z (zXs b L xs) (Ml nm) 0 369 1158 [(1, vR 1), (2, vR 343), (3, vI i)] [] g) : wqS b G R Z (zXs b L xs) (Ml nm) 0 369 967 [(1, vR 1), (2, vR 343), (3, vI i)] [] h := by
  refine wS_aload_n 0 rfl rfl dL_law_967 ?_
  refine wS_V (As := []) vm_X10_refresh lk_L_126 tT_1 rfl rfl (Nat.le_of_ble_eq_true rfl) (Nat.le_of_ble_eq_true rfl) hR dL_law_968 (yx_refresh (Q := fun v g => v = some (vI ((rRef s).1)) ∧ XS g ((rRef s).2) ∧ xcF h g) (by omega) B.1 (fun g a1 a2 => ⟨rfl, a1, a2⟩)) (fun v g1 q => ?_)
  obtain ⟨rfl, x1, c1⟩ := q
  refine wS_st (st' := [vI ((rRef s).1)]) rfl ?_
  refine wS_aload_n 1 rfl rfl dL_law_971 ?_
  refine wS_V (As := []) vm_X11_refresh lk_L_129 tT_343 rfl rfl (Nat.le_of_ble_eq_true rfl) (Nat.le_of_ble_eq_true rfl) hR dL_law_972 (ym_refresh (Q := fun v g => v = some (vI ((rRef s).1)) ∧ MS g ((rRef s).2) ∧ mcF g1 g) (by omega) (MS_x c1 x1.1.1 B.2) (fun g a1 a2 => ⟨rfl, a1, a2⟩)) (fun v g2 q => ?_)
  obtain ⟨rfl, m2, c2⟩ := q
  refine wS_st (st' := [vI ((rRef s).1), vI ((rRef s).1)]) rfl ?_
  exact wS_icmp_eq 1158 rfl dL_law_975 (fun _ => k g2 _ (BS_m (s := s) x1 m2 c2)) (fun c => absurd rfl c)
theorem lwC_27 (hL : L ≤ 2560) (hR : zFit R 0 369 30) (i0 : 0 ≤ i) (i1 : i + 5 ≤ L) (B : BS h s) (k : ∀ g t, BS g t → wqS b G R Z (zXs b L xs) (Ml nm) 0 369 1158 [(1, vR 1), (2, vR 343), (3, vI i)] [] g) : wqS b G R Z (zXs b L xs) (Ml nm) 0 369 980 [(1, vR 1), (2, vR 343), (3, vI i)] [] h := by
  refine wS_aload_n 0 rfl rfl dL_law_980 ?_
  refine wS_ld 2 hL rfl (by omega) (by omega) dL_law_981 dL_law_982 dL_law_983 dL_law_984 dL_law_985 ?_
  refine wS_ld 2 hL rfl (by omega) (by omega) dL_law_986 dL_law_987 dL_law_988 dL_law_989 dL_law_990 ?_
  refine wS_V (As := [vI (xs (i + 1).toNat).toInt, vI (xs (i + 2).toNat).toInt]) vm_X10_expected lk_L_130 tT_1 rfl rfl (Nat.le_of_ble_eq_true rfl) (Nat.le_of_ble_eq_true rfl) hR dL_law_991 (yx_expected (Q := fun v g => v = some (vI ((rExp s ((xs (i + 1).toNat).toInt) ((xs (i + 2).toNat).toInt)))) ∧ XS g (s) ∧ xcF h g) (by omega) B.1 (fun g a1 a2 => ⟨rfl, a1, a2⟩)) (fun v g1 q => ?_)
  obtain ⟨rfl, x1, c1⟩ := q
  refine wS_st (st' := [vI ((rExp s ((xs (i + 1).toNat).toInt) ((xs (i + 2).toNat).toInt)))]) rfl ?_
  refine wS_aload_n 1 rfl rfl dL_law_994 ?_
  refine wS_ld 2 hL rfl (by omega) (by omega) dL_law_995 dL_law_996 dL_law_997 dL_law_998 dL_law_999 ?_
  refine wS_ld 2 hL rfl (by omega) (by omega) dL_law_1000 dL_law_1001 dL_law_1002 dL_law_1003 dL_law_1004 ?_
  refine wS_V (As := [vI (xs (i + 1).toNat).toInt, vI (xs (i + 2).toNat).toInt]) vm_X11_expected lk_L_133 tT_343 rfl rfl (Nat.le_of_ble_eq_true rfl) (Nat.le_of_ble_eq_true rfl) hR dL_law_1005 (ym_expected (Q := fun v g => v = some (vI ((rExp s ((xs (i + 1).toNat).toInt) ((xs (i + 2).toNat).toInt)))) ∧ MS g (s) ∧ mcF g1 g) (by omega) (MS_x c1 x1.1.1 B.2) (fun g a1 a2 => ⟨rfl, a1, a2⟩)) (fun v g2 q => ?_)
  obtain ⟨rfl, m2, c2⟩ := q
  refine wS_st (st' := [vI ((rExp s ((xs (i + 1).toNat).toInt) ((xs (i + 2).toNat).toInt))), vI ((rExp s ((xs (i + 1).toNat).toInt) ((xs (i + 2).toNat).toInt)))]) rfl ?_
  exact wS_icmp_eq 1158 rfl dL_law_1008 (fun _ => k g2 _ (BS_m (s := s) x1 m2 c2)) (fun c => absurd rfl c)
theorem lwC_28 (hL : L ≤ 2560) (hR : zFit R 0 369 30) (i0 : 0 ≤ i) (i1 : i + 5 ≤ L) (B : BS h s) (k : ∀ g t, BS g t → wqS b G R Z (zXs b L xs) (Ml nm) 0 369 1158 [(1, vR 1), (2, vR 343), (3, vI i)] [] g) : wqS b G R Z (zXs b L xs) (Ml nm) 0 369 1013 [(1, vR 1), (2, vR 343), (3, vI i)] [] h := by
  refine wS_aload_n 0 rfl rfl dL_law_1013 ?_
  refine wS_ld 2 hL rfl (by omega) (by omega) dL_law_1014 dL_law_1015 dL_law_1016 dL_law_1017 dL_law_1018 ?_
  refine wS_ld 2 hL rfl (by omega) (by omega) dL_law_1019 dL_law_1020 dL_law_1021 dL_law_1022 dL_law_1023 ?_
  refine wS_V (As := [vI (xs (i + 1).toNat).toInt, vI (xs (i + 2).toNat).toInt]) vm_X10_repair lk_L_134 tT_1 rfl rfl (Nat.le_of_ble_eq_true rfl) (Nat.le_of_ble_eq_true rfl) hR dL_law_1024 (yx_repair (Q := fun v g => v = some (vI ((rRep s ((xs (i + 1).toNat).toInt) ((xs (i + 2).toNat).toInt)))) ∧ XS g (s) ∧ xcF h g) (by omega) B.1 (fun g a1 a2 => ⟨rfl, a1, a2⟩)) (fun v g1 q => ?_)
  obtain ⟨rfl, x1, c1⟩ := q
  refine wS_st (st' := [vI ((rRep s ((xs (i + 1).toNat).toInt) ((xs (i + 2).toNat).toInt)))]) rfl ?_
  refine wS_aload_n 1 rfl rfl dL_law_1027 ?_
  refine wS_ld 2 hL rfl (by omega) (by omega) dL_law_1028 dL_law_1029 dL_law_1030 dL_law_1031 dL_law_1032 ?_
  refine wS_ld 2 hL rfl (by omega) (by omega) dL_law_1033 dL_law_1034 dL_law_1035 dL_law_1036 dL_law_1037 ?_
  refine wS_V (As := [vI (xs (i + 1).toNat).toInt, vI (xs (i + 2).toNat).toInt]) vm_X11_repair lk_L_137 tT_343 rfl rfl (Nat.le_of_ble_eq_true rfl) (Nat.le_of_ble_eq_true rfl) hR dL_law_1038 (ym_repair (Q := fun v g => v = some (vI ((rRep s ((xs (i + 1).toNat).toInt) ((xs (i + 2).toNat).toInt)))) ∧ MS g (s) ∧ mcF g1 g) (by omega) (MS_x c1 x1.1.1 B.2) (fun g a1 a2 => ⟨rfl, a1, a2⟩)) (fun v g2 q => ?_)
  obtain ⟨rfl, m2, c2⟩ := q
  refine wS_st (st' := [vI ((rRep s ((xs (i + 1).toNat).toInt) ((xs (i + 2).toNat).toInt))), vI ((rRep s ((xs (i + 1).toNat).toInt) ((xs (i + 2).toNat).toInt)))]) rfl ?_
  exact wS_icmp_eq 1158 rfl dL_law_1041 (fun _ => k g2 _ (BS_m (s := s) x1 m2 c2)) (fun c => absurd rfl c)
theorem lwC_29 (hL : L ≤ 2560) (hR : zFit R 0 369 30) (i0 : 0 ≤ i) (i1 : i + 5 ≤ L) (B : BS h s) (k : ∀ g t, BS g t → wqS b G R Z (zXs b L xs) (Ml nm) 0 369 1158 [(1, vR 1), (2, vR 343), (3, vI i)] [] g) : wqS b G R Z (zXs b L xs) (Ml nm) 0 369 1046 [(1, vR 1), (2, vR 343), (3, vI i)] [] h := by
  refine wS_aload_n 0 rfl rfl dL_law_1046 ?_
  refine wS_V (As := []) vm_X10_undo lk_L_138 tT_1 rfl rfl (Nat.le_of_ble_eq_true rfl) (Nat.le_of_ble_eq_true rfl) hR dL_law_1047 (yx_undo (Q := fun v g => v = some (vI ((rUnd s).1)) ∧ XS g ((rUnd s).2) ∧ xcF h g) (by omega) B.1 (fun g a1 a2 => ⟨rfl, a1, a2⟩)) (fun v g1 q => ?_)
  obtain ⟨rfl, x1, c1⟩ := q
  refine wS_st (st' := [vI ((rUnd s).1)]) rfl ?_
  refine wS_aload_n 1 rfl rfl dL_law_1050 ?_
  refine wS_V (As := []) vm_X11_undo lk_L_141 tT_343 rfl rfl (Nat.le_of_ble_eq_true rfl) (Nat.le_of_ble_eq_true rfl) hR dL_law_1051 (ym_undo (Q := fun v g => v = some (vI ((rUnd s).1)) ∧ MS g ((rUnd s).2) ∧ mcF g1 g) (by omega) (MS_x c1 x1.1.1 B.2) (fun g a1 a2 => ⟨rfl, a1, a2⟩)) (fun v g2 q => ?_)
  obtain ⟨rfl, m2, c2⟩ := q
  refine wS_st (st' := [vI ((rUnd s).1), vI ((rUnd s).1)]) rfl ?_
  exact wS_icmp_eq 1158 rfl dL_law_1054 (fun _ => k g2 _ (BS_m (s := s) x1 m2 c2)) (fun c => absurd rfl c)
theorem lwC_30 (hL : L ≤ 2560) (hR : zFit R 0 369 30) (i0 : 0 ≤ i) (i1 : i + 5 ≤ L) (B : BS h s) (k : ∀ g t, BS g t → wqS b G R Z (zXs b L xs) (Ml nm) 0 369 1158 [(1, vR 1), (2, vR 343), (3, vI i)] [] g) : wqS b G R Z (zXs b L xs) (Ml nm) 0 369 1059 [(1, vR 1), (2, vR 343), (3, vI i)] [] h := by
  refine wS_aload_n 0 rfl rfl dL_law_1059 ?_
  refine wS_V (As := []) vm_X10_redo lk_L_142 tT_1 rfl rfl (Nat.le_of_ble_eq_true rfl) (Nat.le_of_ble_eq_true rfl) hR dL_law_1060 (yx_redo (Q := fun v g => v = some (vI ((rRed s).1)) ∧ XS g ((rRed s).2) ∧ xcF h g) (by omega) B.1 (fun g a1 a2 => ⟨rfl, a1, a2⟩)) (fun v g1 q => ?_)
  obtain ⟨rfl, x1, c1⟩ := q
  refine wS_st (st' := [vI ((rRed s).1)]) rfl ?_
  refine wS_aload_n 1 rfl rfl dL_law_1063 ?_
  refine wS_V (As := []) vm_X11_redo lk_L_145 tT_343 rfl rfl (Nat.le_of_ble_eq_true rfl) (Nat.le_of_ble_eq_true rfl) hR dL_law_1064 (ym_redo (Q := fun v g => v = some (vI ((rRed s).1)) ∧ MS g ((rRed s).2) ∧ mcF g1 g) (by omega) (MS_x c1 x1.1.1 B.2) (fun g a1 a2 => ⟨rfl, a1, a2⟩)) (fun v g2 q => ?_)
  obtain ⟨rfl, m2, c2⟩ := q
  refine wS_st (st' := [vI ((rRed s).1), vI ((rRed s).1)]) rfl ?_
  exact wS_icmp_eq 1158 rfl dL_law_1067 (fun _ => k g2 _ (BS_m (s := s) x1 m2 c2)) (fun c => absurd rfl c)
theorem lwC_31 (hL : L ≤ 2560) (hR : zFit R 0 369 30) (i0 : 0 ≤ i) (i1 : i + 5 ≤ L) (B : BS h s) (k : ∀ g t, BS g t → wqS b G R Z (zXs b L xs) (Ml nm) 0 369 1158 [(1, vR 1), (2, vR 343), (3, vI i)] [] g) : wqS b G R Z (zXs b L xs) (Ml nm) 0 369 1072 [(1, vR 1), (2, vR 343), (3, vI i)] [] h := by
  refine wS_aload_n 0 rfl rfl dL_law_1072 ?_
  refine wS_V (As := []) vm_X10_mark lk_L_146 tT_1 rfl rfl (Nat.le_of_ble_eq_true rfl) (Nat.le_of_ble_eq_true rfl) hR dL_law_1073 (yx_mark (Q := fun v g => v = some (vI ((rMrk s).1)) ∧ XS g ((rMrk s).2) ∧ xcF h g) (by omega) B.1 (fun g a1 a2 => ⟨rfl, a1, a2⟩)) (fun v g1 q => ?_)
  obtain ⟨rfl, x1, c1⟩ := q
  refine wS_st (st' := [vI ((rMrk s).1)]) rfl ?_
  refine wS_aload_n 1 rfl rfl dL_law_1076 ?_
  refine wS_V (As := []) vm_X11_mark lk_L_149 tT_343 rfl rfl (Nat.le_of_ble_eq_true rfl) (Nat.le_of_ble_eq_true rfl) hR dL_law_1077 (ym_mark (Q := fun v g => v = some (vI ((rMrk s).1)) ∧ MS g ((rMrk s).2) ∧ mcF g1 g) (by omega) (MS_x c1 x1.1.1 B.2) (fun g a1 a2 => ⟨rfl, a1, a2⟩)) (fun v g2 q => ?_)
  obtain ⟨rfl, m2, c2⟩ := q
  refine wS_st (st' := [vI ((rMrk s).1), vI ((rMrk s).1)]) rfl ?_
  exact wS_icmp_eq 1158 rfl dL_law_1080 (fun _ => k g2 _ (BS_m (s := s) x1 m2 c2)) (fun c => absurd rfl c)
theorem lwC_32 (hL : L ≤ 2560) (hR : zFit R 0 369 30) (i0 : 0 ≤ i) (i1 : i + 5 ≤ L) (B : BS h s) (k : ∀ g t, BS g t → wqS b G R Z (zXs b L xs) (Ml nm) 0 369 1158 [(1, vR 1), (2, vR 343), (3, vI i)] [] g) : wqS b G R Z (zXs b L xs) (Ml nm) 0 369 1085 [(1, vR 1), (2, vR 343), (3, vI i)] [] h := by
  refine wS_aload_n 0 rfl rfl dL_law_1085 ?_
  refine wS_ld 2 hL rfl (by omega) (by omega) dL_law_1086 dL_law_1087 dL_law_1088 dL_law_1089 dL_law_1090 ?_
  refine wS_V (As := [vI (xs (i + 1).toNat).toInt]) vm_X10_difference lk_L_150 tT_1 rfl rfl (Nat.le_of_ble_eq_true rfl) (Nat.le_of_ble_eq_true rfl) hR dL_law_1091 (yx_difference (Q := fun v g => v = some (vI ((rDiff (sB s) (sMk s) ((xs (i + 1).toNat).toInt)))) ∧ XS g (s) ∧ xcF h g) (by omega) B.1 (fun g a1 a2 => ⟨rfl, a1, a2⟩)) (fun v g1 q => ?_)
  obtain ⟨rfl, x1, c1⟩ := q
  refine wS_st (st' := [vI ((rDiff (sB s) (sMk s) ((xs (i + 1).toNat).toInt)))]) rfl ?_
  refine wS_aload_n 1 rfl rfl dL_law_1094 ?_
  refine wS_ld 2 hL rfl (by omega) (by omega) dL_law_1095 dL_law_1096 dL_law_1097 dL_law_1098 dL_law_1099 ?_
  refine wS_V (As := [vI (xs (i + 1).toNat).toInt]) vm_X11_difference lk_L_153 tT_343 rfl rfl (Nat.le_of_ble_eq_true rfl) (Nat.le_of_ble_eq_true rfl) hR dL_law_1100 (ym_difference (Q := fun v g => v = some (vI ((rDiff (sB s) (sMk s) ((xs (i + 1).toNat).toInt)))) ∧ MS g (s) ∧ mcF g1 g) (by omega) (MS_x c1 x1.1.1 B.2) (fun g a1 a2 => ⟨rfl, a1, a2⟩)) (fun v g2 q => ?_)
  obtain ⟨rfl, m2, c2⟩ := q
  refine wS_st (st' := [vI ((rDiff (sB s) (sMk s) ((xs (i + 1).toNat).toInt))), vI ((rDiff (sB s) (sMk s) ((xs (i + 1).toNat).toInt)))]) rfl ?_
  exact wS_icmp_eq 1158 rfl dL_law_1103 (fun _ => k g2 _ (BS_m (s := s) x1 m2 c2)) (fun c => absurd rfl c)
theorem lwC_33 (hL : L ≤ 2560) (hR : zFit R 0 369 30) (i0 : 0 ≤ i) (i1 : i + 5 ≤ L) (B : BS h s) (k : ∀ g t, BS g t → wqS b G R Z (zXs b L xs) (Ml nm) 0 369 1158 [(1, vR 1), (2, vR 343), (3, vI i)] [] g) : wqS b G R Z (zXs b L xs) (Ml nm) 0 369 1108 [(1, vR 1), (2, vR 343), (3, vI i)] [] h := by
  refine wS_aload_n 0 rfl rfl dL_law_1108 ?_
  refine wS_V (As := []) vm_X10_distance lk_L_154 tT_1 rfl rfl (Nat.le_of_ble_eq_true rfl) (Nat.le_of_ble_eq_true rfl) hR dL_law_1109 (yx_distance (Q := fun v g => v = some (vI ((rDist (sB s) (sMk s)))) ∧ XS g (s) ∧ xcF h g) (by omega) B.1 (fun g a1 a2 => ⟨rfl, a1, a2⟩)) (fun v g1 q => ?_)
  obtain ⟨rfl, x1, c1⟩ := q
  refine wS_st (st' := [vI ((rDist (sB s) (sMk s)))]) rfl ?_
  refine wS_aload_n 1 rfl rfl dL_law_1112 ?_
  refine wS_V (As := []) vm_X11_distance lk_L_157 tT_343 rfl rfl (Nat.le_of_ble_eq_true rfl) (Nat.le_of_ble_eq_true rfl) hR dL_law_1113 (ym_distance (Q := fun v g => v = some (vI ((rDist (sB s) (sMk s)))) ∧ MS g (s) ∧ mcF g1 g) (by omega) (MS_x c1 x1.1.1 B.2) (fun g a1 a2 => ⟨rfl, a1, a2⟩)) (fun v g2 q => ?_)
  obtain ⟨rfl, m2, c2⟩ := q
  refine wS_st (st' := [vI ((rDist (sB s) (sMk s))), vI ((rDist (sB s) (sMk s)))]) rfl ?_
  exact wS_icmp_eq 1158 rfl dL_law_1116 (fun _ => k g2 _ (BS_m (s := s) x1 m2 c2)) (fun c => absurd rfl c)
theorem lwC_34 (hL : L ≤ 2560) (hR : zFit R 0 369 30) (i0 : 0 ≤ i) (i1 : i + 5 ≤ L) (B : BS h s) (k : ∀ g t, BS g t → wqS b G R Z (zXs b L xs) (Ml nm) 0 369 1158 [(1, vR 1), (2, vR 343), (3, vI i)] [] g) : wqS b G R Z (zXs b L xs) (Ml nm) 0 369 1121 [(1, vR 1), (2, vR 343), (3, vI i)] [] h := by
  refine wS_aload_n 0 rfl rfl dL_law_1121 ?_
  refine wS_ld 2 hL rfl (by omega) (by omega) dL_law_1122 dL_law_1123 dL_law_1124 dL_law_1125 dL_law_1126 ?_
  refine wS_V (As := [vI (xs (i + 1).toNat).toInt]) vm_X10_count lk_L_158 tT_1 rfl rfl (Nat.le_of_ble_eq_true rfl) (Nat.le_of_ble_eq_true rfl) hR dL_law_1127 (yx_count (Q := fun v g => v = some (vI ((rCnt s ((xs (i + 1).toNat).toInt)))) ∧ XS g (s) ∧ xcF h g) (by omega) B.1 (fun g a1 a2 => ⟨rfl, a1, a2⟩)) (fun v g1 q => ?_)
  obtain ⟨rfl, x1, c1⟩ := q
  refine wS_st (st' := [vI ((rCnt s ((xs (i + 1).toNat).toInt)))]) rfl ?_
  refine wS_aload_n 1 rfl rfl dL_law_1130 ?_
  refine wS_ld 2 hL rfl (by omega) (by omega) dL_law_1131 dL_law_1132 dL_law_1133 dL_law_1134 dL_law_1135 ?_
  refine wS_V (As := [vI (xs (i + 1).toNat).toInt]) vm_X11_count lk_L_161 tT_343 rfl rfl (Nat.le_of_ble_eq_true rfl) (Nat.le_of_ble_eq_true rfl) hR dL_law_1136 (ym_count (Q := fun v g => v = some (vI ((rCnt s ((xs (i + 1).toNat).toInt)))) ∧ MS g (s) ∧ mcF g1 g) (by omega) (MS_x c1 x1.1.1 B.2) (fun g a1 a2 => ⟨rfl, a1, a2⟩)) (fun v g2 q => ?_)
  obtain ⟨rfl, m2, c2⟩ := q
  refine wS_st (st' := [vI ((rCnt s ((xs (i + 1).toNat).toInt))), vI ((rCnt s ((xs (i + 1).toNat).toInt)))]) rfl ?_
  exact wS_icmp_eq 1158 rfl dL_law_1139 (fun _ => k g2 _ (BS_m (s := s) x1 m2 c2)) (fun c => absurd rfl c)
theorem lwC_35 (hL : L ≤ 2560) (hR : zFit R 0 369 30) (i0 : 0 ≤ i) (i1 : i + 5 ≤ L) (B : BS h s) (k : ∀ g t, BS g t → wqS b G R Z (zXs b L xs) (Ml nm) 0 369 1158 [(1, vR 1), (2, vR 343), (3, vI i)] [] g) : wqS b G R Z (zXs b L xs) (Ml nm) 0 369 1144 [(1, vR 1), (2, vR 343), (3, vI i)] [] h := by
  refine wS_aload_n 0 rfl rfl dL_law_1144 ?_
  refine wS_V (As := []) vm_X10_digest lk_L_162 tT_1 rfl rfl (Nat.le_of_ble_eq_true rfl) (Nat.le_of_ble_eq_true rfl) hR dL_law_1145 (yx_digest (Q := fun v g => v = some (vL ((rDig s))) ∧ XS g (s) ∧ xcF h g) (by omega) B.1 (fun g a1 a2 => ⟨rfl, a1, a2⟩)) (fun v g1 q => ?_)
  obtain ⟨rfl, x1, c1⟩ := q
  refine wS_st (st' := [vL ((rDig s))]) rfl ?_
  refine wS_aload_n 1 rfl rfl dL_law_1148 ?_
  refine wS_V (As := []) vm_X11_digest lk_L_166 tT_343 rfl rfl (Nat.le_of_ble_eq_true rfl) (Nat.le_of_ble_eq_true rfl) hR dL_law_1149 (ym_digest (Q := fun v g => v = some (vL ((rDig s))) ∧ MS g (s) ∧ mcF g1 g) (by omega) (MS_x c1 x1.1.1 B.2) (fun g a1 a2 => ⟨rfl, a1, a2⟩)) (fun v g2 q => ?_)
  obtain ⟨rfl, m2, c2⟩ := q
  refine wS_st (st' := [vL ((rDig s)), vL ((rDig s))]) rfl ?_
  exact wS_lcmp_eq 1158 rfl dL_law_1152 dL_law_1153 (fun _ => k g2 _ (BS_m (s := s) x1 m2 c2)) (fun c => absurd rfl c)
end LAWC
