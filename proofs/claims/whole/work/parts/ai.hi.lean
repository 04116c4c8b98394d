/-! ===== the numbers look at the reference's columns alone ===== -/
def hi (S : dC) : dC := fun j i f => if 38 ≤ j then S j i f else 0
def Hi (S S' : dC) : Prop := ∀ j f : Nat, 38 ≤ j → sta j f = true → S' j 0 f = S j 0 f
/-- the columns of number 0 that a run of ticks leaves as they are -/
def h0 (S : dC) : dC := fun j i f => if 38 ≤ j ∧ i = 0 ∧ sta j f = true then S j 0 f else 0
theorem h0_eq {S S' : dC} (e : Hi S S') : h0 S' = h0 S := by
  funext j i f
  unfold h0
  by_cases z : 38 ≤ j ∧ i = 0 ∧ sta j f = true
  · rw [if_pos z, if_pos z]; exact e j f z.1 z.2.2
  · rw [if_neg z, if_neg z]
section HIS
variable {S : dC} {V : Nat → Int} {M : dM}
theorem h0_38_3 : h0 S 38 0 3 = S 38 0 3 := if_pos (by decide)
theorem h0_38_8 : h0 S 38 0 8 = S 38 0 8 := if_pos (by decide)
theorem h0_38_14 : h0 S 38 0 14 = S 38 0 14 := if_pos (by decide)
theorem h0_38_19 : h0 S 38 0 19 = S 38 0 19 := if_pos (by decide)
theorem h0_38_21 : h0 S 38 0 21 = S 38 0 21 := if_pos (by decide)
theorem h0_38_22 : h0 S 38 0 22 = S 38 0 22 := if_pos (by decide)
theorem h0_38_24 : h0 S 38 0 24 = S 38 0 24 := if_pos (by decide)
theorem h0_42 : h0 S 42 0 = S 42 0 := funext fun f => if_pos ⟨by decide, rfl, rfl⟩
theorem h0_44 : h0 S 44 0 = S 44 0 := funext fun f => if_pos ⟨by decide, rfl, rfl⟩
theorem h0_45 : h0 S 45 0 = S 45 0 := funext fun f => if_pos ⟨by decide, rfl, rfl⟩
theorem h0_46 : h0 S 46 0 = S 46 0 := funext fun f => if_pos ⟨by decide, rfl, rfl⟩
theorem h0_47 : h0 S 47 0 = S 47 0 := funext fun f => if_pos ⟨by decide, rfl, rfl⟩
theorem h0_49 : h0 S 49 0 = S 49 0 := funext fun f => if_pos ⟨by decide, rfl, rfl⟩
theorem h0_50 : h0 S 50 0 = S 50 0 := funext fun f => if_pos ⟨by decide, rfl, rfl⟩
theorem h0_51 : h0 S 51 0 = S 51 0 := funext fun f => if_pos ⟨by decide, rfl, rfl⟩
theorem h0_52 : h0 S 52 0 = S 52 0 := funext fun f => if_pos ⟨by decide, rfl, rfl⟩
theorem h0_53 : h0 S 53 0 = S 53 0 := funext fun f => if_pos ⟨by decide, rfl, rfl⟩
theorem h0_55 : h0 S 55 0 = S 55 0 := funext fun f => if_pos ⟨by decide, rfl, rfl⟩
theorem h0_56 : h0 S 56 0 = S 56 0 := funext fun f => if_pos ⟨by decide, rfl, rfl⟩
theorem h0_57 : h0 S 57 0 = S 57 0 := funext fun f => if_pos ⟨by decide, rfl, rfl⟩
theorem h0_58 : h0 S 58 0 = S 58 0 := funext fun f => if_pos ⟨by decide, rfl, rfl⟩
theorem h0_60 : h0 S 60 0 = S 60 0 := funext fun f => if_pos ⟨by decide, rfl, rfl⟩
theorem h0_63 : h0 S 63 0 = S 63 0 := funext fun f => if_pos ⟨by decide, rfl, rfl⟩
theorem isBel_h0 : isBel (h0 S) = isBel S := by
  funext n v k
  simp only [isBel, h0_38_3, h0_38_8, h0_38_14, h0_38_19, h0_38_21, h0_38_22, h0_38_24, h0_42, h0_44, h0_45, h0_46, h0_47, h0_49, h0_50, h0_51, h0_52, h0_53, h0_55, h0_56, h0_57, h0_58, h0_60, h0_63]
theorem isAbo_h0 : isAbo (h0 S) = isAbo S := by
  funext n v k
  simp only [isAbo, h0_38_3, h0_38_8, h0_38_14, h0_38_19, h0_38_21, h0_38_22, h0_38_24, h0_42, h0_44, h0_45, h0_46, h0_47, h0_49, h0_50, h0_51, h0_52, h0_53, h0_55, h0_56, h0_57, h0_58, h0_60, h0_63]
theorem belK_h0 : belK (h0 S) = belK S := by
  funext n v
  show (fun p : Nat → Prop => (Classical.propDecidable (∃ k, p k)).byCases (fun h => some (Classical.choose h)) (fun _ => (none : Option Nat))) (isBel (h0 S) n v) = _
  rw [isBel_h0]
  rfl
theorem aboK_h0 : aboK (h0 S) = aboK S := by
  funext n v
  show (fun p : Nat → Prop => (Classical.propDecidable (∃ k, p k)).byCases (fun h => some (Classical.choose h)) (fun _ => (none : Option Nat))) (isAbo (h0 S) n v) = _
  rw [isAbo_h0]
  rfl
theorem chN_h0 : chN (h0 S) = chN S := by
  funext n k
  simp only [chN, h0_38_3, h0_38_8, h0_38_14, h0_38_19, h0_38_21, h0_38_22, h0_38_24, h0_42, h0_44, h0_45, h0_46, h0_47, h0_49, h0_50, h0_51, h0_52, h0_53, h0_55, h0_56, h0_57, h0_58, h0_60, h0_63]
theorem upW_h0 : upW (h0 S) = upW S := by
  funext n b a v w
  simp only [upW, h0_38_3, h0_38_8, h0_38_14, h0_38_19, h0_38_21, h0_38_22, h0_38_24, h0_42, h0_44, h0_45, h0_46, h0_47, h0_49, h0_50, h0_51, h0_52, h0_53, h0_55, h0_56, h0_57, h0_58, h0_60, h0_63]
theorem bl_h0 : bl (h0 S) = bl S := by
  funext V
  funext n9
  induction n9 with
  | zero => funext n w c; first | rfl | simp only [bl, belK_h0, aboK_h0, chN_h0, upW_h0]
  | succ n9 ih => funext n w c; simp only [bl, h0_38_3, h0_38_8, h0_38_14, h0_38_19, h0_38_21, h0_38_22, h0_38_24, h0_42, h0_44, h0_45, h0_46, h0_47, h0_49, h0_50, h0_51, h0_52, h0_53, h0_55, h0_56, h0_57, h0_58, h0_60, h0_63, belK_h0, aboK_h0, chN_h0, upW_h0, ih]
theorem bw_h0 : bw (h0 S) = bw S := by
  funext M s w c
  simp only [bw, h0_38_3, h0_38_8, h0_38_14, h0_38_19, h0_38_21, h0_38_22, h0_38_24, h0_42, h0_44, h0_45, h0_46, h0_47, h0_49, h0_50, h0_51, h0_52, h0_53, h0_55, h0_56, h0_57, h0_58, h0_60, h0_63, belK_h0, aboK_h0, chN_h0, upW_h0, bl_h0]
theorem nC_h0 : nC (h0 S) = nC S := by
  simp only [nC, h0_38_3, h0_38_8, h0_38_14, h0_38_19, h0_38_21, h0_38_22, h0_38_24, h0_42, h0_44, h0_45, h0_46, h0_47, h0_49, h0_50, h0_51, h0_52, h0_53, h0_55, h0_56, h0_57, h0_58, h0_60, h0_63, belK_h0, aboK_h0, chN_h0, upW_h0, bl_h0, bw_h0]
theorem nT_h0 : nT (h0 S) = nT S := by
  simp only [nT, h0_38_3, h0_38_8, h0_38_14, h0_38_19, h0_38_21, h0_38_22, h0_38_24, h0_42, h0_44, h0_45, h0_46, h0_47, h0_49, h0_50, h0_51, h0_52, h0_53, h0_55, h0_56, h0_57, h0_58, h0_60, h0_63, belK_h0, aboK_h0, chN_h0, upW_h0, bl_h0, bw_h0, nC_h0]
theorem lsum_h0 : lsum (h0 S) = lsum S := by
  funext M s n
  simp only [lsum, h0_38_3, h0_38_8, h0_38_14, h0_38_19, h0_38_21, h0_38_22, h0_38_24, h0_42, h0_44, h0_45, h0_46, h0_47, h0_49, h0_50, h0_51, h0_52, h0_53, h0_55, h0_56, h0_57, h0_58, h0_60, h0_63, belK_h0, aboK_h0, chN_h0, upW_h0, bl_h0, bw_h0, nC_h0, nT_h0]
theorem lenS_h0 : lenS (h0 S) = lenS S := by
  funext M s
  simp only [lenS, h0_38_3, h0_38_8, h0_38_14, h0_38_19, h0_38_21, h0_38_22, h0_38_24, h0_42, h0_44, h0_45, h0_46, h0_47, h0_49, h0_50, h0_51, h0_52, h0_53, h0_55, h0_56, h0_57, h0_58, h0_60, h0_63, belK_h0, aboK_h0, chN_h0, upW_h0, bl_h0, bw_h0, nC_h0, nT_h0, lsum_h0]
theorem adv_h0 : adv (h0 S) = adv S := by
  funext M t x
  simp only [adv, h0_38_3, h0_38_8, h0_38_14, h0_38_19, h0_38_21, h0_38_22, h0_38_24, h0_42, h0_44, h0_45, h0_46, h0_47, h0_49, h0_50, h0_51, h0_52, h0_53, h0_55, h0_56, h0_57, h0_58, h0_60, h0_63]
theorem stp_h0 : stp (h0 S) = stp S := by
  funext M t
  simp only [stp, h0_38_3, h0_38_8, h0_38_14, h0_38_19, h0_38_21, h0_38_22, h0_38_24, h0_42, h0_44, h0_45, h0_46, h0_47, h0_49, h0_50, h0_51, h0_52, h0_53, h0_55, h0_56, h0_57, h0_58, h0_60, h0_63, belK_h0, aboK_h0, chN_h0, upW_h0, bl_h0, bw_h0, nC_h0, nT_h0, lsum_h0, lenS_h0, adv_h0]
theorem durS_h0 : durS (h0 S) = durS S := by
  funext t
  simp only [durS, h0_38_3, h0_38_8, h0_38_14, h0_38_19, h0_38_21, h0_38_22, h0_38_24, h0_42, h0_44, h0_45, h0_46, h0_47, h0_49, h0_50, h0_51, h0_52, h0_53, h0_55, h0_56, h0_57, h0_58, h0_60, h0_63]
theorem shr_h0 : shr (h0 S) = shr S := by
  funext M
  simp only [shr, h0_38_3, h0_38_8, h0_38_14, h0_38_19, h0_38_21, h0_38_22, h0_38_24, h0_42, h0_44, h0_45, h0_46, h0_47, h0_49, h0_50, h0_51, h0_52, h0_53, h0_55, h0_56, h0_57, h0_58, h0_60, h0_63, belK_h0, aboK_h0, chN_h0, upW_h0, bl_h0, bw_h0, nC_h0, nT_h0, lsum_h0, lenS_h0, adv_h0, stp_h0, durS_h0]
theorem tmS_h0 : tmS (h0 S) = tmS S := by
  funext M t c
  simp only [tmS, h0_38_3, h0_38_8, h0_38_14, h0_38_19, h0_38_21, h0_38_22, h0_38_24, h0_42, h0_44, h0_45, h0_46, h0_47, h0_49, h0_50, h0_51, h0_52, h0_53, h0_55, h0_56, h0_57, h0_58, h0_60, h0_63]
theorem qtrk_h0 : qtrk (h0 S) = qtrk S := by
  funext M t w
  funext n9
  induction n9 with
  | zero => funext q; first | rfl | simp only [qtrk, belK_h0, aboK_h0, chN_h0, upW_h0, bl_h0, bw_h0, nC_h0, nT_h0, lsum_h0, lenS_h0, adv_h0, stp_h0, durS_h0, shr_h0, tmS_h0]
  | succ n9 ih => funext q; simp only [qtrk, h0_38_3, h0_38_8, h0_38_14, h0_38_19, h0_38_21, h0_38_22, h0_38_24, h0_42, h0_44, h0_45, h0_46, h0_47, h0_49, h0_50, h0_51, h0_52, h0_53, h0_55, h0_56, h0_57, h0_58, h0_60, h0_63, belK_h0, aboK_h0, chN_h0, upW_h0, bl_h0, bw_h0, nC_h0, nT_h0, lsum_h0, lenS_h0, adv_h0, stp_h0, durS_h0, shr_h0, tmS_h0, ih]
theorem qpose_h0 : qpose (h0 S) = qpose S := by
  funext M
  simp only [qpose, h0_38_3, h0_38_8, h0_38_14, h0_38_19, h0_38_21, h0_38_22, h0_38_24, h0_42, h0_44, h0_45, h0_46, h0_47, h0_49, h0_50, h0_51, h0_52, h0_53, h0_55, h0_56, h0_57, h0_58, h0_60, h0_63, belK_h0, aboK_h0, chN_h0, upW_h0, bl_h0, bw_h0, nC_h0, nT_h0, lsum_h0, lenS_h0, adv_h0, stp_h0, durS_h0, shr_h0, tmS_h0, qtrk_h0]
theorem modS_h0 : modS (h0 S) = modS S := by
  funext M
  simp only [modS, h0_38_3, h0_38_8, h0_38_14, h0_38_19, h0_38_21, h0_38_22, h0_38_24, h0_42, h0_44, h0_45, h0_46, h0_47, h0_49, h0_50, h0_51, h0_52, h0_53, h0_55, h0_56, h0_57, h0_58, h0_60, h0_63]
theorem lst_h0 : lst (h0 S) = lst S := by
  funext M t
  simp only [lst, h0_38_3, h0_38_8, h0_38_14, h0_38_19, h0_38_21, h0_38_22, h0_38_24, h0_42, h0_44, h0_45, h0_46, h0_47, h0_49, h0_50, h0_51, h0_52, h0_53, h0_55, h0_56, h0_57, h0_58, h0_60, h0_63, belK_h0, aboK_h0, chN_h0, upW_h0, bl_h0, bw_h0, nC_h0, nT_h0, lsum_h0, lenS_h0, adv_h0, stp_h0, durS_h0, shr_h0, tmS_h0, qtrk_h0, qpose_h0, modS_h0, inL, isBk, inS, inT]
theorem cnP_h0 : cnP (h0 S) = cnP S := by
  funext t k
  simp only [cnP, h0_38_3, h0_38_8, h0_38_14, h0_38_19, h0_38_21, h0_38_22, h0_38_24, h0_42, h0_44, h0_45, h0_46, h0_47, h0_49, h0_50, h0_51, h0_52, h0_53, h0_55, h0_56, h0_57, h0_58, h0_60, h0_63]
theorem cnO_h0 : cnO (h0 S) = cnO S := by
  funext t k
  simp only [cnO, h0_38_3, h0_38_8, h0_38_14, h0_38_19, h0_38_21, h0_38_22, h0_38_24, h0_42, h0_44, h0_45, h0_46, h0_47, h0_49, h0_50, h0_51, h0_52, h0_53, h0_55, h0_56, h0_57, h0_58, h0_60, h0_63]
theorem cnV_h0 : cnV (h0 S) = cnV S := by
  funext t k
  simp only [cnV, h0_38_3, h0_38_8, h0_38_14, h0_38_19, h0_38_21, h0_38_22, h0_38_24, h0_42, h0_44, h0_45, h0_46, h0_47, h0_49, h0_50, h0_51, h0_52, h0_53, h0_55, h0_56, h0_57, h0_58, h0_60, h0_63]
theorem cnN_h0 : cnN (h0 S) = cnN S := by
  funext t
  simp only [cnN, h0_38_3, h0_38_8, h0_38_14, h0_38_19, h0_38_21, h0_38_22, h0_38_24, h0_42, h0_44, h0_45, h0_46, h0_47, h0_49, h0_50, h0_51, h0_52, h0_53, h0_55, h0_56, h0_57, h0_58, h0_60, h0_63]
theorem agl_h0 : agl (h0 S) = agl S := by
  funext M t
  funext n9
  induction n9 with
  | zero => funext k; first | rfl | simp only [agl, belK_h0, aboK_h0, chN_h0, upW_h0, bl_h0, bw_h0, nC_h0, nT_h0, lsum_h0, lenS_h0, adv_h0, stp_h0, durS_h0, shr_h0, tmS_h0, qtrk_h0, qpose_h0, modS_h0, lst_h0, cnP_h0, cnO_h0, cnV_h0, cnN_h0]
  | succ n9 ih => funext k; simp only [agl, h0_38_3, h0_38_8, h0_38_14, h0_38_19, h0_38_21, h0_38_22, h0_38_24, h0_42, h0_44, h0_45, h0_46, h0_47, h0_49, h0_50, h0_51, h0_52, h0_53, h0_55, h0_56, h0_57, h0_58, h0_60, h0_63, belK_h0, aboK_h0, chN_h0, upW_h0, bl_h0, bw_h0, nC_h0, nT_h0, lsum_h0, lenS_h0, adv_h0, stp_h0, durS_h0, shr_h0, tmS_h0, qtrk_h0, qpose_h0, modS_h0, lst_h0, cnP_h0, cnO_h0, cnV_h0, cnN_h0, hld, ih]
theorem agn_h0 : agn (h0 S) = agn S := by
  funext M t l
  simp only [agn, h0_38_3, h0_38_8, h0_38_14, h0_38_19, h0_38_21, h0_38_22, h0_38_24, h0_42, h0_44, h0_45, h0_46, h0_47, h0_49, h0_50, h0_51, h0_52, h0_53, h0_55, h0_56, h0_57, h0_58, h0_60, h0_63, belK_h0, aboK_h0, chN_h0, upW_h0, bl_h0, bw_h0, nC_h0, nT_h0, lsum_h0, lenS_h0, adv_h0, stp_h0, durS_h0, shr_h0, tmS_h0, qtrk_h0, qpose_h0, modS_h0, lst_h0, cnP_h0, cnO_h0, cnV_h0, cnN_h0, agl_h0]
theorem posB_h0 : posB (h0 S) = posB S := by
  funext M l a t
  simp only [posB, h0_38_3, h0_38_8, h0_38_14, h0_38_19, h0_38_21, h0_38_22, h0_38_24, h0_42, h0_44, h0_45, h0_46, h0_47, h0_49, h0_50, h0_51, h0_52, h0_53, h0_55, h0_56, h0_57, h0_58, h0_60, h0_63, belK_h0, aboK_h0, chN_h0, upW_h0, bl_h0, bw_h0, nC_h0, nT_h0, lsum_h0, lenS_h0, adv_h0, stp_h0, durS_h0, shr_h0, tmS_h0, qtrk_h0, qpose_h0, modS_h0, lst_h0, cnP_h0, cnO_h0, cnV_h0, cnN_h0, agl_h0, agn_h0]
theorem frs_h0 : frs (h0 S) = frs S := by
  funext M l
  simp only [frs, h0_38_3, h0_38_8, h0_38_14, h0_38_19, h0_38_21, h0_38_22, h0_38_24, h0_42, h0_44, h0_45, h0_46, h0_47, h0_49, h0_50, h0_51, h0_52, h0_53, h0_55, h0_56, h0_57, h0_58, h0_60, h0_63, belK_h0, aboK_h0, chN_h0, upW_h0, bl_h0, bw_h0, nC_h0, nT_h0, lsum_h0, lenS_h0, adv_h0, stp_h0, durS_h0, shr_h0, tmS_h0, qtrk_h0, qpose_h0, modS_h0, lst_h0, cnP_h0, cnO_h0, cnV_h0, cnN_h0, agl_h0, agn_h0, posB_h0]
theorem ls0_h0 : ls0 (h0 S) = ls0 S := by
  funext M
  simp only [ls0, h0_38_3, h0_38_8, h0_38_14, h0_38_19, h0_38_21, h0_38_22, h0_38_24, h0_42, h0_44, h0_45, h0_46, h0_47, h0_49, h0_50, h0_51, h0_52, h0_53, h0_55, h0_56, h0_57, h0_58, h0_60, h0_63]
theorem pick_h0 : pick (h0 S) = pick S := by
  funext M
  simp only [pick, h0_38_3, h0_38_8, h0_38_14, h0_38_19, h0_38_21, h0_38_22, h0_38_24, h0_42, h0_44, h0_45, h0_46, h0_47, h0_49, h0_50, h0_51, h0_52, h0_53, h0_55, h0_56, h0_57, h0_58, h0_60, h0_63, belK_h0, aboK_h0, chN_h0, upW_h0, bl_h0, bw_h0, nC_h0, nT_h0, lsum_h0, lenS_h0, adv_h0, stp_h0, durS_h0, shr_h0, tmS_h0, qtrk_h0, qpose_h0, modS_h0, lst_h0, cnP_h0, cnO_h0, cnV_h0, cnN_h0, agl_h0, agn_h0, posB_h0, frs_h0, ls0_h0]
theorem clr_h0 : clr (h0 S) = clr S := by
  funext t
  funext n9
  induction n9 with
  | zero => funext M; first | rfl | simp only [clr, belK_h0, aboK_h0, chN_h0, upW_h0, bl_h0, bw_h0, nC_h0, nT_h0, lsum_h0, lenS_h0, adv_h0, stp_h0, durS_h0, shr_h0, tmS_h0, qtrk_h0, qpose_h0, modS_h0, lst_h0, cnP_h0, cnO_h0, cnV_h0, cnN_h0, agl_h0, agn_h0, posB_h0, frs_h0, ls0_h0, pick_h0]
  | succ n9 ih => funext M; simp only [clr, h0_38_3, h0_38_8, h0_38_14, h0_38_19, h0_38_21, h0_38_22, h0_38_24, h0_42, h0_44, h0_45, h0_46, h0_47, h0_49, h0_50, h0_51, h0_52, h0_53, h0_55, h0_56, h0_57, h0_58, h0_60, h0_63, belK_h0, aboK_h0, chN_h0, upW_h0, bl_h0, bw_h0, nC_h0, nT_h0, lsum_h0, lenS_h0, adv_h0, stp_h0, durS_h0, shr_h0, tmS_h0, qtrk_h0, qpose_h0, modS_h0, lst_h0, cnP_h0, cnO_h0, cnV_h0, cnN_h0, agl_h0, agn_h0, posB_h0, frs_h0, ls0_h0, pick_h0, ih]
theorem frz0_h0 : frz0 (h0 S) = frz0 S := by
  funext M
  simp only [frz0, h0_38_3, h0_38_8, h0_38_14, h0_38_19, h0_38_21, h0_38_22, h0_38_24, h0_42, h0_44, h0_45, h0_46, h0_47, h0_49, h0_50, h0_51, h0_52, h0_53, h0_55, h0_56, h0_57, h0_58, h0_60, h0_63, belK_h0, aboK_h0, chN_h0, upW_h0, bl_h0, bw_h0, nC_h0, nT_h0, lsum_h0, lenS_h0, adv_h0, stp_h0, durS_h0, shr_h0, tmS_h0, qtrk_h0, qpose_h0, modS_h0, lst_h0, cnP_h0, cnO_h0, cnV_h0, cnN_h0, agl_h0, agn_h0, posB_h0, frs_h0, ls0_h0, pick_h0, clr_h0]
theorem frz_h0 : frz (h0 S) = frz S := by
  funext M l
  simp only [frz, h0_38_3, h0_38_8, h0_38_14, h0_38_19, h0_38_21, h0_38_22, h0_38_24, h0_42, h0_44, h0_45, h0_46, h0_47, h0_49, h0_50, h0_51, h0_52, h0_53, h0_55, h0_56, h0_57, h0_58, h0_60, h0_63, belK_h0, aboK_h0, chN_h0, upW_h0, bl_h0, bw_h0, nC_h0, nT_h0, lsum_h0, lenS_h0, adv_h0, stp_h0, durS_h0, shr_h0, tmS_h0, qtrk_h0, qpose_h0, modS_h0, lst_h0, cnP_h0, cnO_h0, cnV_h0, cnN_h0, agl_h0, agn_h0, posB_h0, frs_h0, ls0_h0, pick_h0, clr_h0, frz0_h0]
theorem goB_h0 : goB (h0 S) = goB S := by
  funext t M
  simp only [goB, h0_38_3, h0_38_8, h0_38_14, h0_38_19, h0_38_21, h0_38_22, h0_38_24, h0_42, h0_44, h0_45, h0_46, h0_47, h0_49, h0_50, h0_51, h0_52, h0_53, h0_55, h0_56, h0_57, h0_58, h0_60, h0_63]
theorem goP_h0 : goP (h0 S) = goP S := by
  funext t M
  simp only [goP, h0_38_3, h0_38_8, h0_38_14, h0_38_19, h0_38_21, h0_38_22, h0_38_24, h0_42, h0_44, h0_45, h0_46, h0_47, h0_49, h0_50, h0_51, h0_52, h0_53, h0_55, h0_56, h0_57, h0_58, h0_60, h0_63, belK_h0, aboK_h0, chN_h0, upW_h0, bl_h0, bw_h0, nC_h0, nT_h0, lsum_h0, lenS_h0, adv_h0, stp_h0, durS_h0, shr_h0, tmS_h0, qtrk_h0, qpose_h0, modS_h0, lst_h0, cnP_h0, cnO_h0, cnV_h0, cnN_h0, agl_h0, agn_h0, posB_h0, frs_h0, ls0_h0, pick_h0, clr_h0, frz0_h0, frz_h0, goB_h0, syn]
theorem goT_h0 : goT (h0 S) = goT S := by
  funext t M
  simp only [goT, h0_38_3, h0_38_8, h0_38_14, h0_38_19, h0_38_21, h0_38_22, h0_38_24, h0_42, h0_44, h0_45, h0_46, h0_47, h0_49, h0_50, h0_51, h0_52, h0_53, h0_55, h0_56, h0_57, h0_58, h0_60, h0_63, belK_h0, aboK_h0, chN_h0, upW_h0, bl_h0, bw_h0, nC_h0, nT_h0, lsum_h0, lenS_h0, adv_h0, stp_h0, durS_h0, shr_h0, tmS_h0, qtrk_h0, qpose_h0, modS_h0, lst_h0, cnP_h0, cnO_h0, cnV_h0, cnN_h0, agl_h0, agn_h0, posB_h0, frs_h0, ls0_h0, pick_h0, clr_h0, frz0_h0, frz_h0, goB_h0, goP_h0]
theorem takM_h0 : takM (h0 S) = takM S := by
  funext M t l
  simp only [takM, h0_38_3, h0_38_8, h0_38_14, h0_38_19, h0_38_21, h0_38_22, h0_38_24, h0_42, h0_44, h0_45, h0_46, h0_47, h0_49, h0_50, h0_51, h0_52, h0_53, h0_55, h0_56, h0_57, h0_58, h0_60, h0_63, belK_h0, aboK_h0, chN_h0, upW_h0, bl_h0, bw_h0, nC_h0, nT_h0, lsum_h0, lenS_h0, adv_h0, stp_h0, durS_h0, shr_h0, tmS_h0, qtrk_h0, qpose_h0, modS_h0, lst_h0, cnP_h0, cnO_h0, cnV_h0, cnN_h0, agl_h0, agn_h0, posB_h0, frs_h0, ls0_h0, pick_h0, clr_h0, frz0_h0, frz_h0, goB_h0, goP_h0, goT_h0]
theorem tak_h0 : tak (h0 S) = tak S := by
  funext M
  simp only [tak, h0_38_3, h0_38_8, h0_38_14, h0_38_19, h0_38_21, h0_38_22, h0_38_24, h0_42, h0_44, h0_45, h0_46, h0_47, h0_49, h0_50, h0_51, h0_52, h0_53, h0_55, h0_56, h0_57, h0_58, h0_60, h0_63, belK_h0, aboK_h0, chN_h0, upW_h0, bl_h0, bw_h0, nC_h0, nT_h0, lsum_h0, lenS_h0, adv_h0, stp_h0, durS_h0, shr_h0, tmS_h0, qtrk_h0, qpose_h0, modS_h0, lst_h0, cnP_h0, cnO_h0, cnV_h0, cnN_h0, agl_h0, agn_h0, posB_h0, frs_h0, ls0_h0, pick_h0, clr_h0, frz0_h0, frz_h0, goB_h0, goP_h0, goT_h0, takM_h0]
theorem zOf_h0 : zOf (h0 S) = zOf S := by
  funext c k
  simp only [zOf, h0_38_3, h0_38_8, h0_38_14, h0_38_19, h0_38_21, h0_38_22, h0_38_24, h0_42, h0_44, h0_45, h0_46, h0_47, h0_49, h0_50, h0_51, h0_52, h0_53, h0_55, h0_56, h0_57, h0_58, h0_60, h0_63]
theorem fiK_h0 : fiK (h0 S) = fiK S := by
  funext s before fresh after tick c
  funext n9
  induction n9 with
  | zero => funext M; first | rfl | simp only [fiK, belK_h0, aboK_h0, chN_h0, upW_h0, bl_h0, bw_h0, nC_h0, nT_h0, lsum_h0, lenS_h0, adv_h0, stp_h0, durS_h0, shr_h0, tmS_h0, qtrk_h0, qpose_h0, modS_h0, lst_h0, cnP_h0, cnO_h0, cnV_h0, cnN_h0, agl_h0, agn_h0, posB_h0, frs_h0, ls0_h0, pick_h0, clr_h0, frz0_h0, frz_h0, goB_h0, goP_h0, goT_h0, takM_h0, tak_h0, zOf_h0]
  | succ n9 ih => funext M; simp only [fiK, h0_38_3, h0_38_8, h0_38_14, h0_38_19, h0_38_21, h0_38_22, h0_38_24, h0_42, h0_44, h0_45, h0_46, h0_47, h0_49, h0_50, h0_51, h0_52, h0_53, h0_55, h0_56, h0_57, h0_58, h0_60, h0_63, belK_h0, aboK_h0, chN_h0, upW_h0, bl_h0, bw_h0, nC_h0, nT_h0, lsum_h0, lenS_h0, adv_h0, stp_h0, durS_h0, shr_h0, tmS_h0, qtrk_h0, qpose_h0, modS_h0, lst_h0, cnP_h0, cnO_h0, cnV_h0, cnN_h0, agl_h0, agn_h0, posB_h0, frs_h0, ls0_h0, pick_h0, clr_h0, frz0_h0, frz_h0, goB_h0, goP_h0, goT_h0, takM_h0, tak_h0, zOf_h0, crs, ih]
theorem fiC_h0 : fiC (h0 S) = fiC S := by
  funext T s before fresh after tick
  funext n9
  induction n9 with
  | zero => funext M; first | rfl | simp only [fiC, belK_h0, aboK_h0, chN_h0, upW_h0, bl_h0, bw_h0, nC_h0, nT_h0, lsum_h0, lenS_h0, adv_h0, stp_h0, durS_h0, shr_h0, tmS_h0, qtrk_h0, qpose_h0, modS_h0, lst_h0, cnP_h0, cnO_h0, cnV_h0, cnN_h0, agl_h0, agn_h0, posB_h0, frs_h0, ls0_h0, pick_h0, clr_h0, frz0_h0, frz_h0, goB_h0, goP_h0, goT_h0, takM_h0, tak_h0, zOf_h0, fiK_h0]
  | succ n9 ih => funext M; simp only [fiC, h0_38_3, h0_38_8, h0_38_14, h0_38_19, h0_38_21, h0_38_22, h0_38_24, h0_42, h0_44, h0_45, h0_46, h0_47, h0_49, h0_50, h0_51, h0_52, h0_53, h0_55, h0_56, h0_57, h0_58, h0_60, h0_63, belK_h0, aboK_h0, chN_h0, upW_h0, bl_h0, bw_h0, nC_h0, nT_h0, lsum_h0, lenS_h0, adv_h0, stp_h0, durS_h0, shr_h0, tmS_h0, qtrk_h0, qpose_h0, modS_h0, lst_h0, cnP_h0, cnO_h0, cnV_h0, cnN_h0, agl_h0, agn_h0, posB_h0, frs_h0, ls0_h0, pick_h0, clr_h0, frz0_h0, frz_h0, goB_h0, goP_h0, goT_h0, takM_h0, tak_h0, zOf_h0, fiK_h0, hrd, ih]
theorem fir_h0 : fir (h0 S) = fir S := by
  funext s before fresh after share tick M
  simp only [fir, h0_38_3, h0_38_8, h0_38_14, h0_38_19, h0_38_21, h0_38_22, h0_38_24, h0_42, h0_44, h0_45, h0_46, h0_47, h0_49, h0_50, h0_51, h0_52, h0_53, h0_55, h0_56, h0_57, h0_58, h0_60, h0_63, belK_h0, aboK_h0, chN_h0, upW_h0, bl_h0, bw_h0, nC_h0, nT_h0, lsum_h0, lenS_h0, adv_h0, stp_h0, durS_h0, shr_h0, tmS_h0, qtrk_h0, qpose_h0, modS_h0, lst_h0, cnP_h0, cnO_h0, cnV_h0, cnN_h0, agl_h0, agn_h0, posB_h0, frs_h0, ls0_h0, pick_h0, clr_h0, frz0_h0, frz_h0, goB_h0, goP_h0, goT_h0, takM_h0, tak_h0, zOf_h0, fiK_h0, fiC_h0]
theorem mix_h0 : mix (h0 S) = mix S := by
  funext M a b
  simp only [mix, h0_38_3, h0_38_8, h0_38_14, h0_38_19, h0_38_21, h0_38_22, h0_38_24, h0_42, h0_44, h0_45, h0_46, h0_47, h0_49, h0_50, h0_51, h0_52, h0_53, h0_55, h0_56, h0_57, h0_58, h0_60, h0_63, belK_h0, aboK_h0, chN_h0, upW_h0, bl_h0, bw_h0, nC_h0, nT_h0, lsum_h0, lenS_h0, adv_h0, stp_h0, durS_h0, shr_h0, tmS_h0, qtrk_h0, qpose_h0, modS_h0, lst_h0, cnP_h0, cnO_h0, cnV_h0, cnN_h0, agl_h0, agn_h0, posB_h0, frs_h0, ls0_h0, pick_h0, clr_h0, frz0_h0, frz_h0, goB_h0, goP_h0, goT_h0, takM_h0, tak_h0, zOf_h0, fiK_h0, fiC_h0, fir_h0]
theorem stB_h0 : stB (h0 S) = stB S := by
  funext M
  simp only [stB, h0_38_3, h0_38_8, h0_38_14, h0_38_19, h0_38_21, h0_38_22, h0_38_24, h0_42, h0_44, h0_45, h0_46, h0_47, h0_49, h0_50, h0_51, h0_52, h0_53, h0_55, h0_56, h0_57, h0_58, h0_60, h0_63, belK_h0, aboK_h0, chN_h0, upW_h0, bl_h0, bw_h0, nC_h0, nT_h0, lsum_h0, lenS_h0, adv_h0, stp_h0, durS_h0, shr_h0, tmS_h0, qtrk_h0, qpose_h0, modS_h0, lst_h0, cnP_h0, cnO_h0, cnV_h0, cnN_h0, agl_h0, agn_h0, posB_h0, frs_h0, ls0_h0, pick_h0, clr_h0, frz0_h0, frz_h0, goB_h0, goP_h0, goT_h0, takM_h0, tak_h0, zOf_h0, fiK_h0, fiC_h0, fir_h0, mix_h0]
theorem adA_h0 : adA (h0 S) = adA S := by
  funext M
  simp only [adA, h0_38_3, h0_38_8, h0_38_14, h0_38_19, h0_38_21, h0_38_22, h0_38_24, h0_42, h0_44, h0_45, h0_46, h0_47, h0_49, h0_50, h0_51, h0_52, h0_53, h0_55, h0_56, h0_57, h0_58, h0_60, h0_63, belK_h0, aboK_h0, chN_h0, upW_h0, bl_h0, bw_h0, nC_h0, nT_h0, lsum_h0, lenS_h0, adv_h0, stp_h0, durS_h0, shr_h0, tmS_h0, qtrk_h0, qpose_h0, modS_h0, lst_h0, cnP_h0, cnO_h0, cnV_h0, cnN_h0, agl_h0, agn_h0, posB_h0, frs_h0, ls0_h0, pick_h0, clr_h0, frz0_h0, frz_h0, goB_h0, goP_h0, goT_h0, takM_h0, tak_h0, zOf_h0, fiK_h0, fiC_h0, fir_h0, mix_h0, stB_h0]
theorem adB_h0 : adB (h0 S) = adB S := by
  funext M
  simp only [adB, h0_38_3, h0_38_8, h0_38_14, h0_38_19, h0_38_21, h0_38_22, h0_38_24, h0_42, h0_44, h0_45, h0_46, h0_47, h0_49, h0_50, h0_51, h0_52, h0_53, h0_55, h0_56, h0_57, h0_58, h0_60, h0_63, belK_h0, aboK_h0, chN_h0, upW_h0, bl_h0, bw_h0, nC_h0, nT_h0, lsum_h0, lenS_h0, adv_h0, stp_h0, durS_h0, shr_h0, tmS_h0, qtrk_h0, qpose_h0, modS_h0, lst_h0, cnP_h0, cnO_h0, cnV_h0, cnN_h0, agl_h0, agn_h0, posB_h0, frs_h0, ls0_h0, pick_h0, clr_h0, frz0_h0, frz_h0, goB_h0, goP_h0, goT_h0, takM_h0, tak_h0, zOf_h0, fiK_h0, fiC_h0, fir_h0, mix_h0, stB_h0, adA_h0, syn]
theorem tkI_h0 : tkI (h0 S) = tkI S := by
  funext M
  simp only [tkI, h0_38_3, h0_38_8, h0_38_14, h0_38_19, h0_38_21, h0_38_22, h0_38_24, h0_42, h0_44, h0_45, h0_46, h0_47, h0_49, h0_50, h0_51, h0_52, h0_53, h0_55, h0_56, h0_57, h0_58, h0_60, h0_63, belK_h0, aboK_h0, chN_h0, upW_h0, bl_h0, bw_h0, nC_h0, nT_h0, lsum_h0, lenS_h0, adv_h0, stp_h0, durS_h0, shr_h0, tmS_h0, qtrk_h0, qpose_h0, modS_h0, lst_h0, cnP_h0, cnO_h0, cnV_h0, cnN_h0, agl_h0, agn_h0, posB_h0, frs_h0, ls0_h0, pick_h0, clr_h0, frz0_h0, frz_h0, goB_h0, goP_h0, goT_h0, takM_h0, tak_h0, zOf_h0, fiK_h0, fiC_h0, fir_h0, mix_h0, stB_h0, adA_h0, adB_h0]
theorem tkE_h0 : tkE (h0 S) = tkE S := by
  funext M
  simp only [tkE, h0_38_3, h0_38_8, h0_38_14, h0_38_19, h0_38_21, h0_38_22, h0_38_24, h0_42, h0_44, h0_45, h0_46, h0_47, h0_49, h0_50, h0_51, h0_52, h0_53, h0_55, h0_56, h0_57, h0_58, h0_60, h0_63, belK_h0, aboK_h0, chN_h0, upW_h0, bl_h0, bw_h0, nC_h0, nT_h0, lsum_h0, lenS_h0, adv_h0, stp_h0, durS_h0, shr_h0, tmS_h0, qtrk_h0, qpose_h0, modS_h0, lst_h0, cnP_h0, cnO_h0, cnV_h0, cnN_h0, agl_h0, agn_h0, posB_h0, frs_h0, ls0_h0, pick_h0, clr_h0, frz0_h0, frz_h0, goB_h0, goP_h0, goT_h0, takM_h0, tak_h0, zOf_h0, fiK_h0, fiC_h0, fir_h0, mix_h0, stB_h0, adA_h0, adB_h0, tkI_h0]
theorem tkF_h0 : tkF (h0 S) = tkF S := by
  funext M
  simp only [tkF, h0_38_3, h0_38_8, h0_38_14, h0_38_19, h0_38_21, h0_38_22, h0_38_24, h0_42, h0_44, h0_45, h0_46, h0_47, h0_49, h0_50, h0_51, h0_52, h0_53, h0_55, h0_56, h0_57, h0_58, h0_60, h0_63, belK_h0, aboK_h0, chN_h0, upW_h0, bl_h0, bw_h0, nC_h0, nT_h0, lsum_h0, lenS_h0, adv_h0, stp_h0, durS_h0, shr_h0, tmS_h0, qtrk_h0, qpose_h0, modS_h0, lst_h0, cnP_h0, cnO_h0, cnV_h0, cnN_h0, agl_h0, agn_h0, posB_h0, frs_h0, ls0_h0, pick_h0, clr_h0, frz0_h0, frz_h0, goB_h0, goP_h0, goT_h0, takM_h0, tak_h0, zOf_h0, fiK_h0, fiC_h0, fir_h0, mix_h0, stB_h0, adA_h0, adB_h0, tkI_h0, tkE_h0]
theorem tkA_h0 : tkA (h0 S) = tkA S := by
  funext M
  simp only [tkA, h0_38_3, h0_38_8, h0_38_14, h0_38_19, h0_38_21, h0_38_22, h0_38_24, h0_42, h0_44, h0_45, h0_46, h0_47, h0_49, h0_50, h0_51, h0_52, h0_53, h0_55, h0_56, h0_57, h0_58, h0_60, h0_63, belK_h0, aboK_h0, chN_h0, upW_h0, bl_h0, bw_h0, nC_h0, nT_h0, lsum_h0, lenS_h0, adv_h0, stp_h0, durS_h0, shr_h0, tmS_h0, qtrk_h0, qpose_h0, modS_h0, lst_h0, cnP_h0, cnO_h0, cnV_h0, cnN_h0, agl_h0, agn_h0, posB_h0, frs_h0, ls0_h0, pick_h0, clr_h0, frz0_h0, frz_h0, goB_h0, goP_h0, goT_h0, takM_h0, tak_h0, zOf_h0, fiK_h0, fiC_h0, fir_h0, mix_h0, stB_h0, adA_h0, adB_h0, tkI_h0, tkE_h0, tkF_h0]
theorem tkB_h0 : tkB (h0 S) = tkB S := by
  funext M
  simp only [tkB, h0_38_3, h0_38_8, h0_38_14, h0_38_19, h0_38_21, h0_38_22, h0_38_24, h0_42, h0_44, h0_45, h0_46, h0_47, h0_49, h0_50, h0_51, h0_52, h0_53, h0_55, h0_56, h0_57, h0_58, h0_60, h0_63, belK_h0, aboK_h0, chN_h0, upW_h0, bl_h0, bw_h0, nC_h0, nT_h0, lsum_h0, lenS_h0, adv_h0, stp_h0, durS_h0, shr_h0, tmS_h0, qtrk_h0, qpose_h0, modS_h0, lst_h0, cnP_h0, cnO_h0, cnV_h0, cnN_h0, agl_h0, agn_h0, posB_h0, frs_h0, ls0_h0, pick_h0, clr_h0, frz0_h0, frz_h0, goB_h0, goP_h0, goT_h0, takM_h0, tak_h0, zOf_h0, fiK_h0, fiC_h0, fir_h0, mix_h0, stB_h0, adA_h0, adB_h0, tkI_h0, tkE_h0, tkF_h0, tkA_h0]
theorem tkM_h0 : tkM (h0 S) = tkM S := by
  funext M
  simp only [tkM, h0_38_3, h0_38_8, h0_38_14, h0_38_19, h0_38_21, h0_38_22, h0_38_24, h0_42, h0_44, h0_45, h0_46, h0_47, h0_49, h0_50, h0_51, h0_52, h0_53, h0_55, h0_56, h0_57, h0_58, h0_60, h0_63, belK_h0, aboK_h0, chN_h0, upW_h0, bl_h0, bw_h0, nC_h0, nT_h0, lsum_h0, lenS_h0, adv_h0, stp_h0, durS_h0, shr_h0, tmS_h0, qtrk_h0, qpose_h0, modS_h0, lst_h0, cnP_h0, cnO_h0, cnV_h0, cnN_h0, agl_h0, agn_h0, posB_h0, frs_h0, ls0_h0, pick_h0, clr_h0, frz0_h0, frz_h0, goB_h0, goP_h0, goT_h0, takM_h0, tak_h0, zOf_h0, fiK_h0, fiC_h0, fir_h0, mix_h0, stB_h0, adA_h0, adB_h0, tkI_h0, tkE_h0, tkF_h0, tkA_h0, tkB_h0]
theorem tk4_h0 : tk4 (h0 S) = tk4 S := by
  funext M
  simp only [tk4, h0_38_3, h0_38_8, h0_38_14, h0_38_19, h0_38_21, h0_38_22, h0_38_24, h0_42, h0_44, h0_45, h0_46, h0_47, h0_49, h0_50, h0_51, h0_52, h0_53, h0_55, h0_56, h0_57, h0_58, h0_60, h0_63, belK_h0, aboK_h0, chN_h0, upW_h0, bl_h0, bw_h0, nC_h0, nT_h0, lsum_h0, lenS_h0, adv_h0, stp_h0, durS_h0, shr_h0, tmS_h0, qtrk_h0, qpose_h0, modS_h0, lst_h0, cnP_h0, cnO_h0, cnV_h0, cnN_h0, agl_h0, agn_h0, posB_h0, frs_h0, ls0_h0, pick_h0, clr_h0, frz0_h0, frz_h0, goB_h0, goP_h0, goT_h0, takM_h0, tak_h0, zOf_h0, fiK_h0, fiC_h0, fir_h0, mix_h0, stB_h0, adA_h0, adB_h0, tkI_h0, tkE_h0, tkF_h0, tkA_h0, tkB_h0, tkM_h0]
theorem tck_h0 : tck (h0 S) = tck S := by
  funext M
  simp only [tck, h0_38_3, h0_38_8, h0_38_14, h0_38_19, h0_38_21, h0_38_22, h0_38_24, h0_42, h0_44, h0_45, h0_46, h0_47, h0_49, h0_50, h0_51, h0_52, h0_53, h0_55, h0_56, h0_57, h0_58, h0_60, h0_63, belK_h0, aboK_h0, chN_h0, upW_h0, bl_h0, bw_h0, nC_h0, nT_h0, lsum_h0, lenS_h0, adv_h0, stp_h0, durS_h0, shr_h0, tmS_h0, qtrk_h0, qpose_h0, modS_h0, lst_h0, cnP_h0, cnO_h0, cnV_h0, cnN_h0, agl_h0, agn_h0, posB_h0, frs_h0, ls0_h0, pick_h0, clr_h0, frz0_h0, frz_h0, goB_h0, goP_h0, goT_h0, takM_h0, tak_h0, zOf_h0, fiK_h0, fiC_h0, fir_h0, mix_h0, stB_h0, adA_h0, adB_h0, tkI_h0, tkE_h0, tkF_h0, tkA_h0, tkB_h0, tkM_h0, tk4_h0]
theorem tcks_h0 : tcks (h0 S) = tcks S := by
  funext n9
  induction n9 with
  | zero => funext M; first | rfl | simp only [tcks, belK_h0, aboK_h0, chN_h0, upW_h0, bl_h0, bw_h0, nC_h0, nT_h0, lsum_h0, lenS_h0, adv_h0, stp_h0, durS_h0, shr_h0, tmS_h0, qtrk_h0, qpose_h0, modS_h0, lst_h0, cnP_h0, cnO_h0, cnV_h0, cnN_h0, agl_h0, agn_h0, posB_h0, frs_h0, ls0_h0, pick_h0, clr_h0, frz0_h0, frz_h0, goB_h0, goP_h0, goT_h0, takM_h0, tak_h0, zOf_h0, fiK_h0, fiC_h0, fir_h0, mix_h0, stB_h0, adA_h0, adB_h0, tkI_h0, tkE_h0, tkF_h0, tkA_h0, tkB_h0, tkM_h0, tk4_h0, tck_h0]
  | succ n9 ih => funext M; simp only [tcks, h0_38_3, h0_38_8, h0_38_14, h0_38_19, h0_38_21, h0_38_22, h0_38_24, h0_42, h0_44, h0_45, h0_46, h0_47, h0_49, h0_50, h0_51, h0_52, h0_53, h0_55, h0_56, h0_57, h0_58, h0_60, h0_63, belK_h0, aboK_h0, chN_h0, upW_h0, bl_h0, bw_h0, nC_h0, nT_h0, lsum_h0, lenS_h0, adv_h0, stp_h0, durS_h0, shr_h0, tmS_h0, qtrk_h0, qpose_h0, modS_h0, lst_h0, cnP_h0, cnO_h0, cnV_h0, cnN_h0, agl_h0, agn_h0, posB_h0, frs_h0, ls0_h0, pick_h0, clr_h0, frz0_h0, frz_h0, goB_h0, goP_h0, goT_h0, takM_h0, tak_h0, zOf_h0, fiK_h0, fiC_h0, fir_h0, mix_h0, stB_h0, adA_h0, adB_h0, tkI_h0, tkE_h0, tkF_h0, tkA_h0, tkB_h0, tkM_h0, tk4_h0, tck_h0, ih]
theorem told_h0 : told (h0 S) = told S := by
  funext n M
  simp only [told, h0_38_3, h0_38_8, h0_38_14, h0_38_19, h0_38_21, h0_38_22, h0_38_24, h0_42, h0_44, h0_45, h0_46, h0_47, h0_49, h0_50, h0_51, h0_52, h0_53, h0_55, h0_56, h0_57, h0_58, h0_60, h0_63, belK_h0, aboK_h0, chN_h0, upW_h0, bl_h0, bw_h0, nC_h0, nT_h0, lsum_h0, lenS_h0, adv_h0, stp_h0, durS_h0, shr_h0, tmS_h0, qtrk_h0, qpose_h0, modS_h0, lst_h0, cnP_h0, cnO_h0, cnV_h0, cnN_h0, agl_h0, agn_h0, posB_h0, frs_h0, ls0_h0, pick_h0, clr_h0, frz0_h0, frz_h0, goB_h0, goP_h0, goT_h0, takM_h0, tak_h0, zOf_h0, fiK_h0, fiC_h0, fir_h0, mix_h0, stB_h0, adA_h0, adB_h0, tkI_h0, tkE_h0, tkF_h0, tkA_h0, tkB_h0, tkM_h0, tk4_h0, tck_h0, tcks_h0]
theorem tto_h0 : tto (h0 S) = tto S := by
  funext s
  funext n9
  induction n9 with
  | zero => funext n M; first | rfl | simp only [tto, belK_h0, aboK_h0, chN_h0, upW_h0, bl_h0, bw_h0, nC_h0, nT_h0, lsum_h0, lenS_h0, adv_h0, stp_h0, durS_h0, shr_h0, tmS_h0, qtrk_h0, qpose_h0, modS_h0, lst_h0, cnP_h0, cnO_h0, cnV_h0, cnN_h0, agl_h0, agn_h0, posB_h0, frs_h0, ls0_h0, pick_h0, clr_h0, frz0_h0, frz_h0, goB_h0, goP_h0, goT_h0, takM_h0, tak_h0, zOf_h0, fiK_h0, fiC_h0, fir_h0, mix_h0, stB_h0, adA_h0, adB_h0, tkI_h0, tkE_h0, tkF_h0, tkA_h0, tkB_h0, tkM_h0, tk4_h0, tck_h0, tcks_h0, told_h0]
  | succ n9 ih => funext n M; simp only [tto, h0_38_3, h0_38_8, h0_38_14, h0_38_19, h0_38_21, h0_38_22, h0_38_24, h0_42, h0_44, h0_45, h0_46, h0_47, h0_49, h0_50, h0_51, h0_52, h0_53, h0_55, h0_56, h0_57, h0_58, h0_60, h0_63, belK_h0, aboK_h0, chN_h0, upW_h0, bl_h0, bw_h0, nC_h0, nT_h0, lsum_h0, lenS_h0, adv_h0, stp_h0, durS_h0, shr_h0, tmS_h0, qtrk_h0, qpose_h0, modS_h0, lst_h0, cnP_h0, cnO_h0, cnV_h0, cnN_h0, agl_h0, agn_h0, posB_h0, frs_h0, ls0_h0, pick_h0, clr_h0, frz0_h0, frz_h0, goB_h0, goP_h0, goT_h0, takM_h0, tak_h0, zOf_h0, fiK_h0, fiC_h0, fir_h0, mix_h0, stB_h0, adA_h0, adB_h0, tkI_h0, tkE_h0, tkF_h0, tkA_h0, tkB_h0, tkM_h0, tk4_h0, tck_h0, tcks_h0, told_h0, ih]
theorem blkS_h0 : blkS (h0 S) = blkS S := by
  funext M t
  simp only [blkS, h0_38_3, h0_38_8, h0_38_14, h0_38_19, h0_38_21, h0_38_22, h0_38_24, h0_42, h0_44, h0_45, h0_46, h0_47, h0_49, h0_50, h0_51, h0_52, h0_53, h0_55, h0_56, h0_57, h0_58, h0_60, h0_63, belK_h0, aboK_h0, chN_h0, upW_h0, bl_h0, bw_h0, nC_h0, nT_h0, lsum_h0, lenS_h0, adv_h0, stp_h0, durS_h0, shr_h0, tmS_h0, qtrk_h0, qpose_h0, modS_h0, lst_h0, cnP_h0, cnO_h0, cnV_h0, cnN_h0, agl_h0, agn_h0, posB_h0, frs_h0, ls0_h0, pick_h0, clr_h0, frz0_h0, frz_h0, goB_h0, goP_h0, goT_h0, takM_h0, tak_h0, zOf_h0, fiK_h0, fiC_h0, fir_h0, mix_h0, stB_h0, adA_h0, adB_h0, tkI_h0, tkE_h0, tkF_h0, tkA_h0, tkB_h0, tkM_h0, tk4_h0, tck_h0, tcks_h0, told_h0, tto_h0]
theorem edg_h0 : edg (h0 S) = edg S := by
  funext t a b
  simp only [edg, h0_38_3, h0_38_8, h0_38_14, h0_38_19, h0_38_21, h0_38_22, h0_38_24, h0_42, h0_44, h0_45, h0_46, h0_47, h0_49, h0_50, h0_51, h0_52, h0_53, h0_55, h0_56, h0_57, h0_58, h0_60, h0_63]
theorem rs_h0 : rs (h0 S) = rs S := by
  funext f
  funext n9
  induction n9 with
  | zero => funext s; first | rfl | simp only [rs, edg_h0]
  | succ n9 ih => funext s; simp only [rs, h0_38_3, h0_38_8, h0_38_14, h0_38_19, h0_38_21, h0_38_22, h0_38_24, h0_42, h0_44, h0_45, h0_46, h0_47, h0_49, h0_50, h0_51, h0_52, h0_53, h0_55, h0_56, h0_57, h0_58, h0_60, h0_63, edg_h0, ih]
theorem lsD_h0 : lsD (h0 S) = lsD S := by
  funext f s v
  simp only [lsD, h0_38_3, h0_38_8, h0_38_14, h0_38_19, h0_38_21, h0_38_22, h0_38_24, h0_42, h0_44, h0_45, h0_46, h0_47, h0_49, h0_50, h0_51, h0_52, h0_53, h0_55, h0_56, h0_57, h0_58, h0_60, h0_63, edg_h0, rs_h0]
theorem isD_h0 : isD (h0 S) = isD S := by
  funext f s x
  simp only [isD, h0_38_3, h0_38_8, h0_38_14, h0_38_19, h0_38_21, h0_38_22, h0_38_24, h0_42, h0_44, h0_45, h0_46, h0_47, h0_49, h0_50, h0_51, h0_52, h0_53, h0_55, h0_56, h0_57, h0_58, h0_60, h0_63, edg_h0, rs_h0, lsD_h0]
theorem dInv_h0 : dInv (h0 S) = dInv S := by
  funext ln nd n d
  simp only [dInv, h0_38_3, h0_38_8, h0_38_14, h0_38_19, h0_38_21, h0_38_22, h0_38_24, h0_42, h0_44, h0_45, h0_46, h0_47, h0_49, h0_50, h0_51, h0_52, h0_53, h0_55, h0_56, h0_57, h0_58, h0_60, h0_63]
theorem deep_h0 : deep (h0 S) = deep S := by
  funext ln nd
  simp only [deep, h0_38_3, h0_38_8, h0_38_14, h0_38_19, h0_38_21, h0_38_22, h0_38_24, h0_42, h0_44, h0_45, h0_46, h0_47, h0_49, h0_50, h0_51, h0_52, h0_53, h0_55, h0_56, h0_57, h0_58, h0_60, h0_63, dInv_h0]
theorem flat_h0 : flat (h0 S) = flat S := by
  funext ln nd
  simp only [flat, h0_38_3, h0_38_8, h0_38_14, h0_38_19, h0_38_21, h0_38_22, h0_38_24, h0_42, h0_44, h0_45, h0_46, h0_47, h0_49, h0_50, h0_51, h0_52, h0_53, h0_55, h0_56, h0_57, h0_58, h0_60, h0_63, dInv_h0, deep_h0]
theorem tL_h0 : tL (h0 S) = tL S := by
  simp only [tL, h0_38_3, h0_38_8, h0_38_14, h0_38_19, h0_38_21, h0_38_22, h0_38_24, h0_42, h0_44, h0_45, h0_46, h0_47, h0_49, h0_50, h0_51, h0_52, h0_53, h0_55, h0_56, h0_57, h0_58, h0_60, h0_63]
theorem tb_h0 : tb (h0 S) = tb S := by
  funext i
  simp only [tb, h0_38_3, h0_38_8, h0_38_14, h0_38_19, h0_38_21, h0_38_22, h0_38_24, h0_42, h0_44, h0_45, h0_46, h0_47, h0_49, h0_50, h0_51, h0_52, h0_53, h0_55, h0_56, h0_57, h0_58, h0_60, h0_63, tL_h0]
theorem skF_h0 : skF (h0 S) = skF S := by
  funext n9
  induction n9 with
  | zero => funext i; first | rfl | simp only [skF, tL_h0, tb_h0]
  | succ n9 ih => funext i; simp only [skF, h0_38_3, h0_38_8, h0_38_14, h0_38_19, h0_38_21, h0_38_22, h0_38_24, h0_42, h0_44, h0_45, h0_46, h0_47, h0_49, h0_50, h0_51, h0_52, h0_53, h0_55, h0_56, h0_57, h0_58, h0_60, h0_63, tL_h0, tb_h0, ih]
theorem sk_h0 : sk (h0 S) = sk S := by
  funext i
  simp only [sk, h0_38_3, h0_38_8, h0_38_14, h0_38_19, h0_38_21, h0_38_22, h0_38_24, h0_42, h0_44, h0_45, h0_46, h0_47, h0_49, h0_50, h0_51, h0_52, h0_53, h0_55, h0_56, h0_57, h0_58, h0_60, h0_63, tL_h0, tb_h0, skF_h0]
theorem dgF_h0 : dgF (h0 S) = dgF S := by
  funext n9
  induction n9 with
  | zero => funext i; first | rfl | simp only [dgF, tL_h0, tb_h0, skF_h0, sk_h0]
  | succ n9 ih => funext i; simp only [dgF, h0_38_3, h0_38_8, h0_38_14, h0_38_19, h0_38_21, h0_38_22, h0_38_24, h0_42, h0_44, h0_45, h0_46, h0_47, h0_49, h0_50, h0_51, h0_52, h0_53, h0_55, h0_56, h0_57, h0_58, h0_60, h0_63, tL_h0, tb_h0, skF_h0, sk_h0, ih]
theorem dg_h0 : dg (h0 S) = dg S := by
  funext i
  simp only [dg, h0_38_3, h0_38_8, h0_38_14, h0_38_19, h0_38_21, h0_38_22, h0_38_24, h0_42, h0_44, h0_45, h0_46, h0_47, h0_49, h0_50, h0_51, h0_52, h0_53, h0_55, h0_56, h0_57, h0_58, h0_60, h0_63, tL_h0, tb_h0, skF_h0, sk_h0, dgF_h0]
theorem nv_h0 : nv (h0 S) = nv S := by
  funext i
  funext n9
  induction n9 with
  | zero => first | rfl | simp only [nv, tL_h0, tb_h0, skF_h0, sk_h0, dgF_h0, dg_h0]
  | succ n9 ih => simp only [nv, h0_38_3, h0_38_8, h0_38_14, h0_38_19, h0_38_21, h0_38_22, h0_38_24, h0_42, h0_44, h0_45, h0_46, h0_47, h0_49, h0_50, h0_51, h0_52, h0_53, h0_55, h0_56, h0_57, h0_58, h0_60, h0_63, tL_h0, tb_h0, skF_h0, sk_h0, dgF_h0, dg_h0, ih]
theorem pNum_h0 : pNum (h0 S) = pNum S := by
  funext most i
  simp only [pNum, h0_38_3, h0_38_8, h0_38_14, h0_38_19, h0_38_21, h0_38_22, h0_38_24, h0_42, h0_44, h0_45, h0_46, h0_47, h0_49, h0_50, h0_51, h0_52, h0_53, h0_55, h0_56, h0_57, h0_58, h0_60, h0_63, tL_h0, tb_h0, skF_h0, sk_h0, dgF_h0, dg_h0, nv_h0]
theorem pCv_h0 : pCv (h0 S) = pCv S := by
  funext a o i
  simp only [pCv, h0_38_3, h0_38_8, h0_38_14, h0_38_19, h0_38_21, h0_38_22, h0_38_24, h0_42, h0_44, h0_45, h0_46, h0_47, h0_49, h0_50, h0_51, h0_52, h0_53, h0_55, h0_56, h0_57, h0_58, h0_60, h0_63, tL_h0, tb_h0, skF_h0, sk_h0, dgF_h0, dg_h0, nv_h0, pNum_h0]
theorem pCp_h0 : pCp (h0 S) = pCp S := by
  funext no p
  simp only [pCp, h0_38_3, h0_38_8, h0_38_14, h0_38_19, h0_38_21, h0_38_22, h0_38_24, h0_42, h0_44, h0_45, h0_46, h0_47, h0_49, h0_50, h0_51, h0_52, h0_53, h0_55, h0_56, h0_57, h0_58, h0_60, h0_63, tL_h0, tb_h0, skF_h0, sk_h0, dgF_h0, dg_h0, nv_h0, pNum_h0, pCv_h0, isPr]
theorem pCond_h0 : pCond (h0 S) = pCond S := by
  funext i
  simp only [pCond, h0_38_3, h0_38_8, h0_38_14, h0_38_19, h0_38_21, h0_38_22, h0_38_24, h0_42, h0_44, h0_45, h0_46, h0_47, h0_49, h0_50, h0_51, h0_52, h0_53, h0_55, h0_56, h0_57, h0_58, h0_60, h0_63, tL_h0, tb_h0, skF_h0, sk_h0, dgF_h0, dg_h0, nv_h0, pNum_h0, pCv_h0, pCp_h0]
theorem pOne_h0 : pOne (h0 S) = pOne S := by
  funext k p e r
  simp only [pOne, h0_38_3, h0_38_8, h0_38_14, h0_38_19, h0_38_21, h0_38_22, h0_38_24, h0_42, h0_44, h0_45, h0_46, h0_47, h0_49, h0_50, h0_51, h0_52, h0_53, h0_55, h0_56, h0_57, h0_58, h0_60, h0_63, tL_h0, tb_h0, skF_h0, sk_h0, dgF_h0, dg_h0, nv_h0, pNum_h0, pCv_h0, pCp_h0, pCond_h0]
theorem pAtt_h0 : pAtt (h0 S) = pAtt S := by
  funext n9
  induction n9 with
  | zero => funext i e r; first | rfl | simp only [pAtt, tL_h0, tb_h0, skF_h0, sk_h0, dgF_h0, dg_h0, nv_h0, pNum_h0, pCv_h0, pCp_h0, pCond_h0, pOne_h0]
  | succ n9 ih => funext i e r; simp only [pAtt, h0_38_3, h0_38_8, h0_38_14, h0_38_19, h0_38_21, h0_38_22, h0_38_24, h0_42, h0_44, h0_45, h0_46, h0_47, h0_49, h0_50, h0_51, h0_52, h0_53, h0_55, h0_56, h0_57, h0_58, h0_60, h0_63, tL_h0, tb_h0, skF_h0, sk_h0, dgF_h0, dg_h0, nv_h0, pNum_h0, pCv_h0, pCp_h0, pCond_h0, pOne_h0, ih]
theorem pTo_h0 : pTo (h0 S) = pTo S := by
  funext f i
  simp only [pTo, h0_38_3, h0_38_8, h0_38_14, h0_38_19, h0_38_21, h0_38_22, h0_38_24, h0_42, h0_44, h0_45, h0_46, h0_47, h0_49, h0_50, h0_51, h0_52, h0_53, h0_55, h0_56, h0_57, h0_58, h0_60, h0_63, tL_h0, tb_h0, skF_h0, sk_h0, dgF_h0, dg_h0, nv_h0, pNum_h0, pCv_h0, pCp_h0, pCond_h0, pOne_h0, pAtt_h0, isSt]
theorem pTr_h0 : pTr (h0 S) = pTr S := by
  funext i
  simp only [pTr, h0_38_3, h0_38_8, h0_38_14, h0_38_19, h0_38_21, h0_38_22, h0_38_24, h0_42, h0_44, h0_45, h0_46, h0_47, h0_49, h0_50, h0_51, h0_52, h0_53, h0_55, h0_56, h0_57, h0_58, h0_60, h0_63, tL_h0, tb_h0, skF_h0, sk_h0, dgF_h0, dg_h0, nv_h0, pNum_h0, pCv_h0, pCp_h0, pCond_h0, pOne_h0, pAtt_h0, pTo_h0, isSt]
theorem pAll_h0 : pAll (h0 S) = pAll S := by
  funext n9
  induction n9 with
  | zero => funext i; first | rfl | simp only [pAll, tL_h0, tb_h0, skF_h0, sk_h0, dgF_h0, dg_h0, nv_h0, pNum_h0, pCv_h0, pCp_h0, pCond_h0, pOne_h0, pAtt_h0, pTo_h0, pTr_h0]
  | succ n9 ih => funext i; simp only [pAll, h0_38_3, h0_38_8, h0_38_14, h0_38_19, h0_38_21, h0_38_22, h0_38_24, h0_42, h0_44, h0_45, h0_46, h0_47, h0_49, h0_50, h0_51, h0_52, h0_53, h0_55, h0_56, h0_57, h0_58, h0_60, h0_63, tL_h0, tb_h0, skF_h0, sk_h0, dgF_h0, dg_h0, nv_h0, pNum_h0, pCv_h0, pCp_h0, pCond_h0, pOne_h0, pAtt_h0, pTo_h0, pTr_h0, ih]
end HIS
theorem lenS_Hi {S S' : dC} (e : Hi S S') : lenS S' = lenS S := by rw [← lenS_h0 (S := S'), ← lenS_h0 (S := S), h0_eq e]
theorem bw_Hi {S S' : dC} (e : Hi S S') : bw S' = bw S := by rw [← bw_h0 (S := S'), ← bw_h0 (S := S), h0_eq e]
theorem blkS_Hi {S S' : dC} (e : Hi S S') : blkS S' = blkS S := by rw [← blkS_h0 (S := S'), ← blkS_h0 (S := S), h0_eq e]
theorem qpose_Hi {S S' : dC} (e : Hi S S') : qpose S' = qpose S := by rw [← qpose_h0 (S := S'), ← qpose_h0 (S := S), h0_eq e]
theorem tcks_Hi {S S' : dC} (e : Hi S S') : tcks S' = tcks S := by rw [← tcks_h0 (S := S'), ← tcks_h0 (S := S), h0_eq e]
theorem told_Hi {S S' : dC} (e : Hi S S') : told S' = told S := by rw [← told_h0 (S := S'), ← told_h0 (S := S), h0_eq e]
theorem tto_Hi {S S' : dC} (e : Hi S S') : tto S' = tto S := by rw [← tto_h0 (S := S'), ← tto_h0 (S := S), h0_eq e]
theorem isD_Hi {S S' : dC} (e : Hi S S') : isD S' = isD S := by rw [← isD_h0 (S := S'), ← isD_h0 (S := S), h0_eq e]
theorem pAll_Hi {S S' : dC} (e : Hi S S') : pAll S' = pAll S := by rw [← pAll_h0 (S := S'), ← pAll_h0 (S := S), h0_eq e]
theorem deep_Hi {S S' : dC} (e : Hi S S') : deep S' = deep S := by rw [← deep_h0 (S := S'), ← deep_h0 (S := S), h0_eq e]
theorem flat_Hi {S S' : dC} (e : Hi S S') : flat S' = flat S := by rw [← flat_h0 (S := S'), ← flat_h0 (S := S), h0_eq e]
/-- what holds of what was added, of these columns alone -/
theorem SI.Hi_ {S S' : dC} (I : SI S) (e : Hi S S') : SI S' := by
  have a : SI (h0 S) := I
  rw [← h0_eq e] at a
  exact a
def hm (S : dC) : dC := fun j i f => if 38 ≤ j ∧ i = 0 ∧ sta j f = true then S j 0 f else 0
theorem KS.Hi_ {S S' : dC} {N zz : Nat → Nat} {C : dC} {P : dP} (K : KS S N zz C P) (e : Hi S S') : KS S' N zz C P := by
  have a : KS (h0 S) N zz C P := K
  rw [← h0_eq e] at a
  exact a
