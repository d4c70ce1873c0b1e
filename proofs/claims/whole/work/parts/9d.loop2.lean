/-! the law's loop, all of it -/
section
variable {l : Launch} {G : GG} {b L : Nat} {xs : Nat → Int32} {cells slots pc : Nat} {lv : List (Option Value)} {h : AH} {k : Nat}
theorem l_fin (hdg : decode cL_law pc = .ok (.ireturn, 1)) (hc : cells ≤ 1125) (hs : slots ≤ 18635) : AL l G b L xs cells slots pc lv [.int 1] h := fun p e s m args below meth c H locs ls C hZ hW hS hl => by
  obtain ⟨rfl, -, -, -, -, hG⟩ := hZ
  refine va_forget (fun q hq => by rw [← hG]; exact hS.2.2 q hq) ?_
  refine W.widen (k := 1125) (n := 18635) hc hs ?_
  exact lw_ret C.1 C.2.1 C.2.2.2.2.2.1 C.2.2.2.2.2.2.1 hdg
theorem l_le (hL : L ≤ 3072) (hk : 6 * k ≤ 3072) (hn : ¬ Int32.ofNat L - 6 < nI (6 * k)) : 6 * k + 6 ≤ L := by
  rw [Int32.lt_iff_toInt_lt, Int32.toInt_sub, nI_toInt (by omega), show (Int32.ofNat L).toInt = L from nI_toInt (n := L) (by omega), show (6 : Int32).toInt = 6 by decide] at hn
  have e : Int.bmod ((L : Int) - 6) (2 ^ 32) = (L : Int) - 6 := by
    apply Int.bmod_eq_of_le <;> omega
  rw [e] at hn
  omega
theorem l_sw (x : Int32) : (x.toInt < 0 ∨ 23 < x.toInt) ∨ (0 ≤ x.toInt ∧ x.toInt ≤ 23) := by omega
theorem CPL.up9 {B : Nat} (hC : CPL h B) (h9 : B + 9 ≤ 9000) : CPL h (B + 9) := by
  obtain ⟨b, d, nl, np, nq, nt, sm, ax, L, hX⟩ := hC
  exact hX.cpl h9
theorem l_go (hl : l.stackTraces = false) (hL : L ≤ 3072) (hk0 : 6 * k ≤ 3072) (hC : CPL h (9 * k))
    (IH : ∀ h2, 6 * k + 6 ≤ L → CPL h2 (9 * (k + 1)) → AL l G b L xs (97 + (k + 1)) (10419 + 6 * (k + 1)) 23 (lvL G b (k + 1)) [] h2) : AL l G b L xs (97 + k) (10419 + 6 * k) 23 (lvL G b k) [] h := by
  refine g_iload dL_law_23 rfl ?_
  refine g_aload_n dL_law_25 rfl ?_
  refine g_slen dL_law_26 ?_
  refine g_bipush (v := 6) dL_law_27 (by decide) ?_
  refine g_isub dL_law_29 ?_
  refine g_icmp_gt dL_law_30 (tgt := 976) (by decide) (fun _ => ?_) (fun c => ?_)
  · refine g_iconst (v := 1) dL_law_976 (by decide) ?_
    exact l_fin dL_law_977 (by omega) (by omega)
  have hk : 6 * k + 6 ≤ L := l_le hL hk0 c
  have h9 : 9 * k + 9 ≤ 9000 := by omega
  have K0 : ∀ h2, CPL h2 (9 * k + 9) → AL l G b L xs (97 + k + 1) (10419 + 6 * k + 6) 970 (lvL G b k) [] h2 := fun h2 hC2 => by
    refine g_iinc (v := nI (6 * (k + 1))) dL_law_970 rfl ?_ (by decide) rfl ?_
    · show nI (6 * k) + nI 6 = _
      rw [nI_add]; rfl
    refine g_goto dL_law_973 (tgt := 23) (by decide) ?_
    exact IH h2 hk hC2
  have K1 : ∀ h2, CPL h2 (9 * k + 9) → AL l G b L xs (97 + k) (10419 + 6 * k) 970 (lvL G b k) [] h2 := fun h2 hC2 => g_widen (by omega) (by omega) (K0 h2 hC2)
  have hc : 97 + k ≤ 1125 := by omega
  have hs : 10419 + 6 * k ≤ 18635 := by omega
  have hc1 : 97 + k + 1 ≤ 1125 := by omega
  have hs1 : 10419 + 6 * k + 6 ≤ 18635 := by omega
  refine g_aload_n dL_law_33 rfl ?_
  refine g_iload dL_law_34 rfl ?_
  refine g_sld (by omega) hL dL_law_36 ?_
  refine g_bipush (v := 31) dL_law_37 (by decide) ?_
  refine g_iand dL_law_39 ?_
  generalize xs (6 * k) &&& 31 = w
  by_cases e0 : w = 0
  · rw [e0]
    exact g_tableIn dL_law_40 (off := 112) (by decide) (by decide) (by decide) (tgt := 152) (by decide) (l_feed hC h9 hk hL hc hs K1)
  by_cases e1 : w = 1
  · rw [e1]
    exact g_tableIn dL_law_40 (off := 185) (by decide) (by decide) (by decide) (tgt := 225) (by decide) (l_end hC h9 hk hL hc hs K1)
  by_cases e2 : w = 2
  · rw [e2]
    exact g_tableIn dL_law_40 (off := 210) (by decide) (by decide) (by decide) (tgt := 250) (by decide) (l_text hC h9 hk hL hc hs K1)
  by_cases e3 : w = 3
  · rw [e3]
    exact g_tableIn dL_law_40 (off := 223) (by decide) (by decide) (by decide) (tgt := 263) (by decide) (l_fault hC h9 hk hL hc hs K1)
  by_cases e4 : w = 4
  · rw [e4]
    exact g_tableIn dL_law_40 (off := 236) (by decide) (by decide) (by decide) (tgt := 276) (by decide) (l_now hC h9 hk hL hc hs K1)
  by_cases e5 : w = 5
  · rw [e5]
    exact g_tableIn dL_law_40 (off := 261) (by decide) (by decide) (by decide) (tgt := 301) (by decide) (l_type hC h9 hk hL hc hs K1)
  by_cases e6 : w = 6
  · rw [e6]
    exact g_tableIn dL_law_40 (off := 298) (by decide) (by decide) (by decide) (tgt := 338) (by decide) (l_ledger hC h9 hk hL hc hs K1)
  by_cases e7 : w = 7
  · rw [e7]
    exact g_tableIn dL_law_40 (off := 335) (by decide) (by decide) (by decide) (tgt := 375) (by decide) (l_lorry hC h9 hk hL hl hc1 hs1 K0)
  by_cases e8 : w = 8
  · rw [e8]
    exact g_tableIn dL_law_40 (off := 403) (by decide) (by decide) (by decide) (tgt := 443) (by decide) (l_trip hC h9 hk hL hc hs K1)
  by_cases e9 : w = 9
  · rw [e9]
    exact g_tableIn dL_law_40 (off := 440) (by decide) (by decide) (by decide) (tgt := 480) (by decide) (l_fits hC h9 hk hL hc hs K1)
  by_cases e10 : w = 10
  · rw [e10]
    exact g_tableIn dL_law_40 (off := 477) (by decide) (by decide) (by decide) (tgt := 517) (by decide) (l_plan hC h9 hk hL hc hs K1)
  by_cases e11 : w = 11
  · rw [e11]
    exact g_tableIn dL_law_40 (off := 502) (by decide) (by decide) (by decide) (tgt := 542) (by decide) (l_served hC h9 hk hL hc hs K1)
  by_cases e12 : w = 12
  · rw [e12]
    exact g_tableIn dL_law_40 (off := 539) (by decide) (by decide) (by decide) (tgt := 579) (by decide) (l_needs hC h9 hk hL hc hs K1)
  by_cases e13 : w = 13
  · rw [e13]
    exact g_tableIn dL_law_40 (off := 564) (by decide) (by decide) (by decide) (tgt := 604) (by decide) (l_free hC h9 hk hL hc hs K1)
  by_cases e14 : w = 14
  · rw [e14]
    exact g_tableIn dL_law_40 (off := 601) (by decide) (by decide) (by decide) (tgt := 641) (by decide) (l_shortest hC h9 hk hL hc hs K1)
  by_cases e15 : w = 15
  · rw [e15]
    exact g_tableIn dL_law_40 (off := 638) (by decide) (by decide) (by decide) (tgt := 678) (by decide) (l_lawful hC h9 hk hL hc hs K1)
  by_cases e16 : w = 16
  · rw [e16]
    exact g_tableIn dL_law_40 (off := 675) (by decide) (by decide) (by decide) (tgt := 715) (by decide) (l_ask hC h9 hk hL hc hs K1)
  by_cases e17 : w = 17
  · rw [e17]
    exact g_tableIn dL_law_40 (off := 724) (by decide) (by decide) (by decide) (tgt := 764) (by decide) (l_drop hC h9 hk hL hc hs K1)
  by_cases e18 : w = 18
  · rw [e18]
    exact g_tableIn dL_law_40 (off := 749) (by decide) (by decide) (by decide) (tgt := 789) (by decide) (l_assign hC h9 hk hL hc hs K1)
  by_cases e19 : w = 19
  · rw [e19]
    exact g_tableIn dL_law_40 (off := 762) (by decide) (by decide) (by decide) (tgt := 802) (by decide) (l_home hC h9 hk hL hl hc1 hs1 K0)
  by_cases e20 : w = 20
  · rw [e20]
    exact g_tableIn dL_law_40 (off := 818) (by decide) (by decide) (by decide) (tgt := 858) (by decide) (l_stop hC h9 hk hL hc hs K1)
  by_cases e21 : w = 21
  · rw [e21]
    exact g_tableIn dL_law_40 (off := 855) (by decide) (by decide) (by decide) (tgt := 895) (by decide) (l_handBack hC h9 hk hL hc hs K1)
  by_cases e22 : w = 22
  · rw [e22]
    exact g_tableIn dL_law_40 (off := 892) (by decide) (by decide) (by decide) (tgt := 932) (by decide) (l_pass hC h9 hk hL hc hs K1)
  by_cases e23 : w = 23
  · rw [e23]
    exact g_tableIn dL_law_40 (off := 917) (by decide) (by decide) (by decide) (tgt := 957) (by decide) (l_undo hC h9 hk hL hc hs K1)
  refine g_tableOut dL_law_40 ?_ (tgt := 970) (by decide) (K1 h (CPL.up9 hC h9))
  simp only [← Int32.toInt_inj] at e0 e1 e2 e3 e4 e5 e6 e7 e8 e9 e10 e11 e12 e13 e14 e15 e16 e17 e18 e19 e20 e21 e22 e23
  have z0 : (0 : Int32).toInt = 0 := by decide
  have z1 : (1 : Int32).toInt = 1 := by decide
  have z2 : (2 : Int32).toInt = 2 := by decide
  have z3 : (3 : Int32).toInt = 3 := by decide
  have z4 : (4 : Int32).toInt = 4 := by decide
  have z5 : (5 : Int32).toInt = 5 := by decide
  have z6 : (6 : Int32).toInt = 6 := by decide
  have z7 : (7 : Int32).toInt = 7 := by decide
  have z8 : (8 : Int32).toInt = 8 := by decide
  have z9 : (9 : Int32).toInt = 9 := by decide
  have z10 : (10 : Int32).toInt = 10 := by decide
  have z11 : (11 : Int32).toInt = 11 := by decide
  have z12 : (12 : Int32).toInt = 12 := by decide
  have z13 : (13 : Int32).toInt = 13 := by decide
  have z14 : (14 : Int32).toInt = 14 := by decide
  have z15 : (15 : Int32).toInt = 15 := by decide
  have z16 : (16 : Int32).toInt = 16 := by decide
  have z17 : (17 : Int32).toInt = 17 := by decide
  have z18 : (18 : Int32).toInt = 18 := by decide
  have z19 : (19 : Int32).toInt = 19 := by decide
  have z20 : (20 : Int32).toInt = 20 := by decide
  have z21 : (21 : Int32).toInt = 21 := by decide
  have z22 : (22 : Int32).toInt = 22 := by decide
  have z23 : (23 : Int32).toInt = 23 := by decide
  simp only [z0, z1, z2, z3, z4, z5, z6, z7, z8, z9, z10, z11, z12, z13, z14, z15, z16, z17, z18, z19, z20, z21, z22, z23] at e0 e1 e2 e3 e4 e5 e6 e7 e8 e9 e10 e11 e12 e13 e14 e15 e16 e17 e18 e19 e20 e21 e22 e23
  omega
theorem l_loop (hl : l.stackTraces = false) (hL : L ≤ 3072) : ∀ (n k : Nat) (h : AH), L < 6 * k + 6 * n → 6 * k ≤ 3072 → CPL h (9 * k) → AL l G b L xs (97 + k) (10419 + 6 * k) 23 (lvL G b k) [] h
  | 0, k, h, hn, hk, hC => l_go hl hL hk hC (fun h2 hk2 _ => absurd hk2 (by omega))
  | n + 1, k, h, hn, hk, hC => l_go hl hL hk hC (fun h2 hk2 hC2 => l_loop hl hL n (k + 1) h2 (by omega) (by omega) hC2)
end
