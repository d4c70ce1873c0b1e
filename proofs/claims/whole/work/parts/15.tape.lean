def bytF (n s : Int32) : Int32 := (n >>> (s &&& 31)).toInt8.toInt32
def putF (h : AH) (n : Int32) (L : Nat) : AH :=
  ui (ui (ui (ui (ui (ui (ui (ui h 0 2 L (bytF n 24)) 0 1 1 (nI (L + 1))) 0 2 (L + 1) (bytF n 16)) 0 1 1 (nI (L + 1 + 1))) 0 2 (L + 1 + 1) (bytF n 8)) 0 1 1 (nI (L + 1 + 1 + 1))) 0 2 (L + 1 + 1 + 1) (bytF n 0)) 0 1 1 (nI (L + 1 + 1 + 1 + 1))
def atF (h : AH) (x : Int32) : Int32 := if x < 0 then -1 else if h.1 0 1 1 ≤ x then -1 else if 740 ≤ x then -1 else h.1 0 2 x.toNatClampNeg &&& 255
theorem in_of {x : Int32} {n : Int32} {N : Nat} (h1 : ¬ x < 0) (h2 : ¬ n ≤ x) (hn : n.toInt = N := by decide) : vp_in x N := by
  rw [Int32.lt_iff_toInt_lt] at h1
  rw [Int32.le_iff_toInt_le] at h2
  rw [vp_in_iff]
  have : (0 : Int32).toInt = 0 := by decide
  omega
theorem c7_at {l : Launch} {G : GG} {h : AH} {Q : Option Value → AH → Prop} {x : Int32} (hQ : Q (some (.int (atF h x))) h) : Ct l G 0 yX7_at cX7_at 2 (some .int) [.ref (G.1 0 1), .int x] h Q := by
  refine Ct.of (by decide) (Nat.le_of_ble_eq_true rfl) ?_
  show AW l G 0 RX7 cX7_at 2 (some .int) 0 [some (.ref (G.1 0 1)), some (.int x)] [] h Q
  refine a_iload_n dX7_at_0 rfl ?_
  refine a_if_lt dX7_at_1 (tgt := 34) (by decide) (fun c1 => ?_) (fun c1 => ?_)
  · refine a_iconst (v := (-1)) dX7_at_34 (by decide) ?_
    exact a_iret dX7_at_35 rfl (by simpa [atF, c1] using hQ)
  · refine a_iload_n dX7_at_4 rfl ?_
    refine a_aload_n dX7_at_5 rfl ?_
    refine a_getI (ci := 7) (j := 1) dX7_at_6 rfl rfl (by decide) rfl fl_7_15 ?_
    refine a_icmp_ge dX7_at_9 (tgt := 34) (by decide) (fun c9 => ?_) (fun c9 => ?_)
    · refine a_iconst (v := (-1)) dX7_at_34 (by decide) ?_
      exact a_iret dX7_at_35 rfl (by simpa [atF, c1, c9] using hQ)
    · refine a_iload_n dX7_at_12 rfl ?_
      refine a_aload_n dX7_at_13 rfl ?_
      refine a_getR (ci := 7) (j := 0) dX7_at_14 rfl rfl (by decide) rfl fl_7_9 ?_
      refine a_alen (v := 740) dX7_at_17 rfl (Or.inr rfl) (by decide) ?_
      refine a_icmp_ge dX7_at_18 (tgt := 34) (by decide) (fun c18 => ?_) (fun c18 => ?_)
      · refine a_iconst (v := (-1)) dX7_at_34 (by decide) ?_
        exact a_iret dX7_at_35 rfl (by simpa [atF, c1, c9, c18] using hQ)
      · refine a_aload_n dX7_at_21 rfl ?_
        refine a_getR (ci := 7) (j := 0) dX7_at_22 rfl rfl (by decide) rfl fl_7_9 ?_
        refine a_iload_n dX7_at_25 rfl ?_
        refine a_baload dX7_at_26 rfl (in_of c1 c18) ?_
        refine a_sipush (v := 255) dX7_at_27 (by decide) ?_
        refine a_iand dX7_at_30 ?_
        refine a_goto dX7_at_31 (tgt := 35) (by decide) ?_
        exact a_iret dX7_at_35 rfl (by simpa [atF, c1, c9, c18] using hQ)
theorem c7_putNumber {l : Launch} {G : GG} {h : AH} {Q : Option Value → AH → Prop} {x : Int32} {L : Nat} (hL : h.1 0 1 1 = nI L) (h740 : L + 4 ≤ 740) (hQ : Q none (putF h x L)) : Ct l G 0 yX7_putNumber cX7_putNumber 3 none [.ref (G.1 0 1), .int x] h Q := by
  refine Ct.of (by decide) (Nat.le_of_ble_eq_true rfl) ?_
  show AW l G 0 RX7 cX7_putNumber 3 none 0 [some (.ref (G.1 0 1)), some (.int x)] [] h Q
  have e0 : (nI L).toNatClampNeg = L := nI_clamp (by omega)
  have e1 : (nI (L + 1)).toNatClampNeg = L + 1 := nI_clamp (by omega)
  have e2 : (nI (L + 1 + 1)).toNatClampNeg = L + 1 + 1 := nI_clamp (by omega)
  have e3 : (nI (L + 1 + 1 + 1)).toNatClampNeg = L + 1 + 1 + 1 := nI_clamp (by omega)
  refine a_bipush (v := 24) dX7_putNumber_0 (by decide) ?_
  refine a_istore_n dX7_putNumber_2 (by decide) rfl ?_
  dsimp only [lset]
  refine a_iload_n dX7_putNumber_3 rfl ?_
  refine a_if_lt dX7_putNumber_4 (tgt := 48) (by decide) (fun c4 => ?_) (fun c4 => ?_)
  · exact absurd c4 (by decide)
  · refine a_aload_n dX7_putNumber_7 rfl ?_
    refine a_getI (ci := 7) (j := 1) dX7_putNumber_8 rfl rfl (by decide) rfl fl_7_15 ?_
    try simp (disch := first | decide | assumption | omega) only [ui_eq, ui_k, ui_j, ui_b, ui_2, ul_1, ul_eq, ul_k, ul_j, ul_b, hL, nI_1]
    refine a_aload_n dX7_putNumber_11 rfl ?_
    refine a_getR (ci := 7) (j := 0) dX7_putNumber_12 rfl rfl (by decide) rfl fl_7_9 ?_
    refine a_alen (v := 740) dX7_putNumber_15 rfl (Or.inr rfl) (by decide) ?_
    refine a_icmp_ge dX7_putNumber_16 (tgt := 42) (by decide) (fun c16 => ?_) (fun c16 => ?_)
    · exact absurd c16 (nI_ge (b := 740) (by omega) (by decide))
    · refine a_aload_n dX7_putNumber_19 rfl ?_
      refine a_getR (ci := 7) (j := 0) dX7_putNumber_20 rfl rfl (by decide) rfl fl_7_9 ?_
      refine a_aload_n dX7_putNumber_23 rfl ?_
      refine a_getI (ci := 7) (j := 1) dX7_putNumber_24 rfl rfl (by decide) rfl fl_7_15 ?_
      try simp (disch := first | decide | assumption | omega) only [ui_eq, ui_k, ui_j, ui_b, ui_2, ul_1, ul_eq, ul_k, ul_j, ul_b, hL, nI_1]
      refine a_iload_n dX7_putNumber_27 rfl ?_
      refine a_iload_n dX7_putNumber_28 rfl ?_
      refine a_ishr dX7_putNumber_29 ?_
      refine a_i2b dX7_putNumber_30 ?_
      refine a_bastore dX7_putNumber_31 rfl (vp_in_nI (by omega) (by decide)) ?_
      refine a_aload_n dX7_putNumber_32 rfl ?_
      refine a_dup dX7_putNumber_33 rfl ?_
      refine a_getI (ci := 7) (j := 1) dX7_putNumber_34 rfl rfl (by decide) rfl fl_7_15 ?_
      try simp (disch := first | decide | assumption | omega) only [ui_eq, ui_k, ui_j, ui_b, ui_2, ul_1, ul_eq, ul_k, ul_j, ul_b, hL, nI_1]
      refine a_iconst (v := 1) dX7_putNumber_37 (by decide) ?_
      refine a_iadd dX7_putNumber_38 ?_
      refine a_putI (ci := 7) (j := 1) dX7_putNumber_39 rfl rfl (by decide) (by decide) rfl fl_7_15 ?_
      refine a_inc (c := (-8)) dX7_putNumber_42 rfl (by decide) (by decide) rfl ?_
      dsimp only [lset]
      refine a_goto dX7_putNumber_45 (tgt := 3) (by decide) ?_
      refine a_iload_n dX7_putNumber_3 rfl ?_
      refine a_if_lt dX7_putNumber_4 (tgt := 48) (by decide) (fun c4v2 => ?_) (fun c4v2 => ?_)
      · exact absurd c4v2 (by decide)
      · refine a_aload_n dX7_putNumber_7 rfl ?_
        refine a_getI (ci := 7) (j := 1) dX7_putNumber_8 rfl rfl (by decide) rfl fl_7_15 ?_
        try simp (disch := first | decide | assumption | omega) only [ui_eq, ui_k, ui_j, ui_b, ui_2, ul_1, ul_eq, ul_k, ul_j, ul_b, hL, nI_1]
        refine a_aload_n dX7_putNumber_11 rfl ?_
        refine a_getR (ci := 7) (j := 0) dX7_putNumber_12 rfl rfl (by decide) rfl fl_7_9 ?_
        refine a_alen (v := 740) dX7_putNumber_15 rfl (Or.inr rfl) (by decide) ?_
        refine a_icmp_ge dX7_putNumber_16 (tgt := 42) (by decide) (fun c16v2 => ?_) (fun c16v2 => ?_)
        · exact absurd c16v2 (nI_ge (b := 740) (by omega) (by decide))
        · refine a_aload_n dX7_putNumber_19 rfl ?_
          refine a_getR (ci := 7) (j := 0) dX7_putNumber_20 rfl rfl (by decide) rfl fl_7_9 ?_
          refine a_aload_n dX7_putNumber_23 rfl ?_
          refine a_getI (ci := 7) (j := 1) dX7_putNumber_24 rfl rfl (by decide) rfl fl_7_15 ?_
          try simp (disch := first | decide | assumption | omega) only [ui_eq, ui_k, ui_j, ui_b, ui_2, ul_1, ul_eq, ul_k, ul_j, ul_b, hL, nI_1]
          refine a_iload_n dX7_putNumber_27 rfl ?_
          refine a_iload_n dX7_putNumber_28 rfl ?_
          refine a_ishr dX7_putNumber_29 ?_
          refine a_i2b dX7_putNumber_30 ?_
          refine a_bastore dX7_putNumber_31 rfl (vp_in_nI (by omega) (by decide)) ?_
          refine a_aload_n dX7_putNumber_32 rfl ?_
          refine a_dup dX7_putNumber_33 rfl ?_
          refine a_getI (ci := 7) (j := 1) dX7_putNumber_34 rfl rfl (by decide) rfl fl_7_15 ?_
          try simp (disch := first | decide | assumption | omega) only [ui_eq, ui_k, ui_j, ui_b, ui_2, ul_1, ul_eq, ul_k, ul_j, ul_b, hL, nI_1]
          refine a_iconst (v := 1) dX7_putNumber_37 (by decide) ?_
          refine a_iadd dX7_putNumber_38 ?_
          refine a_putI (ci := 7) (j := 1) dX7_putNumber_39 rfl rfl (by decide) (by decide) rfl fl_7_15 ?_
          refine a_inc (c := (-8)) dX7_putNumber_42 rfl (by decide) (by decide) rfl ?_
          dsimp only [lset]
          refine a_goto dX7_putNumber_45 (tgt := 3) (by decide) ?_
          refine a_iload_n dX7_putNumber_3 rfl ?_
          refine a_if_lt dX7_putNumber_4 (tgt := 48) (by decide) (fun c4v3 => ?_) (fun c4v3 => ?_)
          · exact absurd c4v3 (by decide)
          · refine a_aload_n dX7_putNumber_7 rfl ?_
            refine a_getI (ci := 7) (j := 1) dX7_putNumber_8 rfl rfl (by decide) rfl fl_7_15 ?_
            try simp (disch := first | decide | assumption | omega) only [ui_eq, ui_k, ui_j, ui_b, ui_2, ul_1, ul_eq, ul_k, ul_j, ul_b, hL, nI_1]
            refine a_aload_n dX7_putNumber_11 rfl ?_
            refine a_getR (ci := 7) (j := 0) dX7_putNumber_12 rfl rfl (by decide) rfl fl_7_9 ?_
            refine a_alen (v := 740) dX7_putNumber_15 rfl (Or.inr rfl) (by decide) ?_
            refine a_icmp_ge dX7_putNumber_16 (tgt := 42) (by decide) (fun c16v3 => ?_) (fun c16v3 => ?_)
            · exact absurd c16v3 (nI_ge (b := 740) (by omega) (by decide))
            · refine a_aload_n dX7_putNumber_19 rfl ?_
              refine a_getR (ci := 7) (j := 0) dX7_putNumber_20 rfl rfl (by decide) rfl fl_7_9 ?_
              refine a_aload_n dX7_putNumber_23 rfl ?_
              refine a_getI (ci := 7) (j := 1) dX7_putNumber_24 rfl rfl (by decide) rfl fl_7_15 ?_
              try simp (disch := first | decide | assumption | omega) only [ui_eq, ui_k, ui_j, ui_b, ui_2, ul_1, ul_eq, ul_k, ul_j, ul_b, hL, nI_1]
              refine a_iload_n dX7_putNumber_27 rfl ?_
              refine a_iload_n dX7_putNumber_28 rfl ?_
              refine a_ishr dX7_putNumber_29 ?_
              refine a_i2b dX7_putNumber_30 ?_
              refine a_bastore dX7_putNumber_31 rfl (vp_in_nI (by omega) (by decide)) ?_
              refine a_aload_n dX7_putNumber_32 rfl ?_
              refine a_dup dX7_putNumber_33 rfl ?_
              refine a_getI (ci := 7) (j := 1) dX7_putNumber_34 rfl rfl (by decide) rfl fl_7_15 ?_
              try simp (disch := first | decide | assumption | omega) only [ui_eq, ui_k, ui_j, ui_b, ui_2, ul_1, ul_eq, ul_k, ul_j, ul_b, hL, nI_1]
              refine a_iconst (v := 1) dX7_putNumber_37 (by decide) ?_
              refine a_iadd dX7_putNumber_38 ?_
              refine a_putI (ci := 7) (j := 1) dX7_putNumber_39 rfl rfl (by decide) (by decide) rfl fl_7_15 ?_
              refine a_inc (c := (-8)) dX7_putNumber_42 rfl (by decide) (by decide) rfl ?_
              dsimp only [lset]
              refine a_goto dX7_putNumber_45 (tgt := 3) (by decide) ?_
              refine a_iload_n dX7_putNumber_3 rfl ?_
              refine a_if_lt dX7_putNumber_4 (tgt := 48) (by decide) (fun c4v4 => ?_) (fun c4v4 => ?_)
              · exact absurd c4v4 (by decide)
              · refine a_aload_n dX7_putNumber_7 rfl ?_
                refine a_getI (ci := 7) (j := 1) dX7_putNumber_8 rfl rfl (by decide) rfl fl_7_15 ?_
                try simp (disch := first | decide | assumption | omega) only [ui_eq, ui_k, ui_j, ui_b, ui_2, ul_1, ul_eq, ul_k, ul_j, ul_b, hL, nI_1]
                refine a_aload_n dX7_putNumber_11 rfl ?_
                refine a_getR (ci := 7) (j := 0) dX7_putNumber_12 rfl rfl (by decide) rfl fl_7_9 ?_
                refine a_alen (v := 740) dX7_putNumber_15 rfl (Or.inr rfl) (by decide) ?_
                refine a_icmp_ge dX7_putNumber_16 (tgt := 42) (by decide) (fun c16v4 => ?_) (fun c16v4 => ?_)
                · exact absurd c16v4 (nI_ge (b := 740) (by omega) (by decide))
                · refine a_aload_n dX7_putNumber_19 rfl ?_
                  refine a_getR (ci := 7) (j := 0) dX7_putNumber_20 rfl rfl (by decide) rfl fl_7_9 ?_
                  refine a_aload_n dX7_putNumber_23 rfl ?_
                  refine a_getI (ci := 7) (j := 1) dX7_putNumber_24 rfl rfl (by decide) rfl fl_7_15 ?_
                  try simp (disch := first | decide | assumption | omega) only [ui_eq, ui_k, ui_j, ui_b, ui_2, ul_1, ul_eq, ul_k, ul_j, ul_b, hL, nI_1]
                  refine a_iload_n dX7_putNumber_27 rfl ?_
                  refine a_iload_n dX7_putNumber_28 rfl ?_
                  refine a_ishr dX7_putNumber_29 ?_
                  refine a_i2b dX7_putNumber_30 ?_
                  refine a_bastore dX7_putNumber_31 rfl (vp_in_nI (by omega) (by decide)) ?_
                  refine a_aload_n dX7_putNumber_32 rfl ?_
                  refine a_dup dX7_putNumber_33 rfl ?_
                  refine a_getI (ci := 7) (j := 1) dX7_putNumber_34 rfl rfl (by decide) rfl fl_7_15 ?_
                  try simp (disch := first | decide | assumption | omega) only [ui_eq, ui_k, ui_j, ui_b, ui_2, ul_1, ul_eq, ul_k, ul_j, ul_b, hL, nI_1]
                  refine a_iconst (v := 1) dX7_putNumber_37 (by decide) ?_
                  refine a_iadd dX7_putNumber_38 ?_
                  refine a_putI (ci := 7) (j := 1) dX7_putNumber_39 rfl rfl (by decide) (by decide) rfl fl_7_15 ?_
                  refine a_inc (c := (-8)) dX7_putNumber_42 rfl (by decide) (by decide) rfl ?_
                  dsimp only [lset]
                  refine a_goto dX7_putNumber_45 (tgt := 3) (by decide) ?_
                  refine a_iload_n dX7_putNumber_3 rfl ?_
                  refine a_if_lt dX7_putNumber_4 (tgt := 48) (by decide) (fun c4v5 => ?_) (fun c4v5 => ?_)
                  · exact a_vret dX7_putNumber_48 rfl (by
    have s1 : (24 : Int32) + -8 = 16 := by decide
    have s2 : (16 : Int32) + -8 = 8 := by decide
    have s3 : (8 : Int32) + -8 = 0 := by decide
    simpa [putF, bytF, e0, e1, e2, e3, s1, s2, s3, pk_vb, nI_1] using hQ)
                  · exact absurd (by decide) c4v5
