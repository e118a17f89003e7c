/-! ===== questions of the reference: its own families alone ===== -/
section QF
variable {g g' : Nat → Int → Int → Int}
theorem gAs_q (h : wEq g' g) : gAs g' = gAs g := by unfold gAs; rw [h 105 rfl, h 50 rfl]
theorem wWy_q (h : wEq g' g) : wWy g' = wWy g := by unfold wWy; rw [h 50 rfl]
theorem gA_q {w : Int} (h : wEq g' g) : wEq (gA g' w) (gA g w) := wEq_it (wEq_beg h) 201
theorem gT_q {t : Int} (h : wEq g' g) : wEq (gT g' t) (gT g t) := by unfold gT; rw [gAs_q h]; exact wEq_it (wEq_beg h) _
theorem gTh_q (h : wEq g' g) : wEq (gTh g') (gTh g) := by unfold gTh; rw [gAs_q h]; exact wEq_it (wEq_u (wEq_beg h) rfl) 201
theorem gCa_q {a : Int} (h : wEq g' g) : wEq (gCa g' a) (gCa g a) := by unfold gCa; rw [gAs_q h]; exact wEq_it (wEq_u (wEq_beg h) rfl) 201
theorem gLa_q {w : Int} (h : wEq g' g) : gLa g' w = gLa g w := by unfold gLa; rw [gA_q h 135 rfl, h 50 rfl]
theorem fOf_q (a w : Int) (h : wEq g' g) : fOf g' a w = fOf g a w := by
  unfold fOf
  rw [h 50 rfl, gAs_q h, gA_q h 135 rfl, gA_q h 136 rfl, gA_q h 131 rfl, gA_q h 132 rfl, gA_q h 134 rfl]
theorem fAt_q (a b w : Int) (h : wEq g' g) : fAt g' a b w = fAt g a b w := by
  unfold fAt
  rw [h 50 rfl, gT_q h 129 rfl, gT_q h 130 rfl]
theorem fLast_q (w : Int) (h : wEq g' g) : fLast g' w = fLast g w := by
  unfold fLast
  rw [gAs_q h, gLa_q h, gA_q h 135 rfl]
theorem fOrd_q (b : Int) (h : wEq g' g) : fOrd g' b = fOrd g b := by
  unfold fOrd
  rw [h 50 rfl, wOrdO_e (gT_q h)]
theorem fTil_q (b : Int) (h : wEq g' g) : fTil g' b = fTil g b := by
  unfold fTil
  rw [h 50 rfl, wTil_e (gT_q h)]
theorem fThr_q (a w : Int) (h : wEq g' g) : fThr g' a w = fThr g a w := by
  unfold fThr
  rw [h 50 rfl, gAs_q h, gTh_q h 135 rfl, gTh_q h 50 rfl, gA_q h 135 rfl]
theorem gSoon_q (k : Int) (h : wEq g' g) : gSoon g' k = gSoon g k := by
  unfold gSoon
  exact wFI_c fun w s _ _ => by rw [gLa_q h, gA_q h 135 rfl]
theorem gLon_q (a k : Int) (h : wEq g' g) : gLon g' a k = gLon g a k := by
  unfold gLon
  exact wFI_c fun w s _ _ => by rw [gA_q h 135 rfl]
theorem fSoon_q (w : Int) (h : wEq g' g) : fSoon g' w = fSoon g w := by
  unfold fSoon
  rw [wWy_q h, gSoon_q _ h]
theorem fLon_q (a w : Int) (h : wEq g' g) : fLon g' a w = fLon g a w := by
  unfold fLon
  rw [h 50 rfl, wWy_q h, gLon_q _ _ h]
theorem fBeL_q (a w : Int) (h : wEq g' g) : fBeL g' a w = fBeL g a w := by
  have e : pBeL g' a = pBeL g a := funext fun w => by unfold pBeL; rw [gLa_q h]
  unfold fBeL
  rw [h 50 rfl, wWy_q h, e]
theorem fCar_q (x w : Int) (h : wEq g' g) : fCar g' x w = fCar g x w := by
  unfold fCar
  rw [h 50 rfl, gCa_q h 50 rfl, gCa_q h 135 rfl]
theorem fRou_q (h : wEq g' g) : fRou g' = fRou g := by
  have e : gSm g' = gSm g := funext fun q => by
    unfold gSm
    rw [wEq_it (gT_q h) _ 129 rfl, wEq_it (gT_q h) _ 130 rfl, gT_q h 129 rfl, gT_q h 130 rfl, h 50 rfl]
  unfold fRou
  rw [h 50 rfl, e]
theorem fDrw_q (seed : Int) (h : wEq g' g) : fDrw g' seed = fDrw g seed := by
  unfold fDrw
  rw [h 50 rfl, gLa_q h, gA_q h 135 rfl]
theorem fBy_q (t p : Int) (h : wEq g' g) : fBy g' t p = fBy g t p := by
  have e : pBy g' t = pBy g t := funext fun w => by
    unfold pBy gBy
    rw [h 50 rfl]
    exact wFI_c fun a l _ _ => by rw [gA_q h 135 rfl]
  unfold fBy
  rw [wWy_q h, e]
theorem gAny_q {w k : Int} (h : wEq g' g) : gAny g' w k = gAny g w k := by
  unfold gAny
  rw [h 50 rfl]
  exact wAny_e (wEq_st1 (wEq_it (wEq_beg h) _))
theorem gHr_q (s w k : Int) (h : wEq g' g) : gHr g' s w k = gHr g s w k := by
  unfold gHr
  exact wFI_c fun a l _ _ => by rw [gAny_q h, h 157 rfl, h 156 rfl]
theorem fFit_q (s t w : Int) (h : wEq g' g) : fFit g' s t w = fFit g s t w := by
  have e : pFit g' s t = pFit g s t := funext fun w => by
    unfold pFit fFi fHr gFi
    rw [gHr_q _ _ _ h, h 156 rfl, h 50 rfl, wFI_c (f := fun a l => if l ≠ 0 ∧ g' 157 0 (40 * s + a) = gA g' w 135 0 a then 1 else 0) (f' := fun a l => if l ≠ 0 ∧ g 157 0 (40 * s + a) = gA g w 135 0 a then 1 else 0) fun a l _ _ => by rw [h 157 rfl, gA_q h 135 rfl]]
  unfold fFit
  rw [h 155 rfl, h 156 rfl, h 50 rfl, wWy_q h, e]
end QF
