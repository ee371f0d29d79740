theorem lt_end {L i : Nat} (hL : L ≤ 2560) (hi : i ≤ 2564) (h : ¬ nI L - nI 5 < nI i) : i + 5 ≤ L := by
  rcases Nat.lt_or_ge L 5 with z | z
  · exfalso
    apply h
    rw [Int32.lt_iff_toInt_lt, nI_toInt (by omega)]
    have e : (nI L - nI 5).toInt < 0 := by
      rcases (show L = 0 ∨ L = 1 ∨ L = 2 ∨ L = 3 ∨ L = 4 by omega) with rfl | rfl | rfl | rfl | rfl <;> decide
    omega
  · rw [pk_sub z, nI_ltI (by omega) (by omega)] at h
    omega
set_option maxHeartbeats 800000 in
set_option maxRecDepth 20000 in
/-- THE LAW'S LOOP -/
theorem law_loop {l : Launch} {g : Geo} {X : Nat → Nat → (Nat → Int32) → Prop} {P : PT} (hX : Gd l g RL cL_law room_1 4 (some .boolean) (fun r _ => r = some (.int 1)) X P) {b L : Nat} {xs : Nat → Int32} (hb0 : X b L xs) (hL : L ≤ 2560) : ∀ n i w N, L ≤ i + n → i ≤ 2564 → N ≤ 60 * i → RW w N → P w 18 [some (.ref b), some (.ref (g_ad g 10 0)), some (.ref (g_ad g 9 0)), some (.int (nI i))] []
  | n, i, w, N, hn, hi, hNi, hR => by
    have hN : N ≤ 2 ^ 26 - 200 := by omega
    refine pw_iload_n hX rfl dL_law_18 (q := 19) rfl ?_
    refine pw_aload_n hX rfl dL_law_19 (q := 20) rfl ?_
    refine pw_slen hX hb0 dL_law_20 (q := 21) rfl ?_
    refine pw_iconst hX (k := 5) rfl (by decide) dL_law_21 (q := 22) rfl ?_
    refine pw_isub hX dL_law_22 (q := 23) rfl ?_
    refine pw_icmp_gt hX (tgt := 735) dL_law_23 (q := 26) rfl (by decide) (fun _ => ?_) (fun h_23 => ?_)
    · refine pw_iconst hX (k := 1) rfl (by decide) dL_law_735 (q := 736) rfl ?_
      exact pw_ireturn hX dL_law_736 ⟨_, rfl, by decide⟩ rfl
    · have h5 := lt_end hL hi h_23
      have kk : ∀ z, RW z (N + 60) → P z 729 [some (.ref b), some (.ref (g_ad g 10 0)), some (.ref (g_ad g 9 0)), some (.int (nI i))] [] := fun z hz => by
        refine pw_iinc hX rfl (by decide) (y := nI (i + 5)) (by rw [← nI_add]; rfl) dL_law_729 (q := 732) rfl ?_
        refine pw_goto hX (tgt := 18) dL_law_732 (by decide) ?_
        match n, hn with
        | 0, hn => exact absurd hn (by omega)
        | n + 1, hn => exact law_loop hX hb0 hL n (i + 5) z (N + 60) (by omega) (by omega) (by omega) hz
      refine pw_aload_n hX rfl dL_law_26 (q := 27) rfl ?_
      refine pw_iload_n hX rfl dL_law_27 (q := 28) rfl ?_
      refine pw_sld hX hb0 (vp_in_nI (by omega) (by omega)) dL_law_28 (q := 29) rfl ?_
      refine pw_bipush hX (k := 31) (by decide) dL_law_29 (q := 31) rfl ?_
      refine pw_iand hX dL_law_31 (q := 32) rfl ?_
      generalize xs (nI i).toNatClampNeg &&& nI 31 = v
      by_cases hv : inN 0 22 v = true
      · obtain ⟨k, -, hk, rfl⟩ := inN_of (by decide) hv
        rcases (show k = 0 ∨ k = 1 ∨ k = 2 ∨ k = 3 ∨ k = 4 ∨ k = 5 ∨ k = 6 ∨ k = 7 ∨ k = 8 ∨ k = 9 ∨ k = 10 ∨ k = 11 ∨ k = 12 ∨ k = 13 ∨ k = 14 ∨ k = 15 ∨ k = 16 ∨ k = 17 ∨ k = 18 ∨ k = 19 ∨ k = 20 ∨ k = 21 ∨ k = 22 by omega) with rfl | rfl | rfl | rfl | rfl | rfl | rfl | rfl | rfl | rfl | rfl | rfl | rfl | rfl | rfl | rfl | rfl | rfl | rfl | rfl | rfl | rfl | rfl
        · refine pw_tabIn hX (tgt := 140) (off := 108) dL_law_32 (by decide) (by decide) (by decide) (by decide) ?_
          exact lc_0 hX hb0 hL h5 hR hN kk
        · refine pw_tabIn hX (tgt := 153) (off := 121) dL_law_32 (by decide) (by decide) (by decide) (by decide) ?_
          exact lc_1 hX hb0 hL h5 hR hN kk
        · refine pw_tabIn hX (tgt := 176) (off := 144) dL_law_32 (by decide) (by decide) (by decide) (by decide) ?_
          exact lc_2 hX hb0 hL h5 hR hN kk
        · refine pw_tabIn hX (tgt := 199) (off := 167) dL_law_32 (by decide) (by decide) (by decide) (by decide) ?_
          exact lc_3 hX hb0 hL h5 hR hN kk
        · refine pw_tabIn hX (tgt := 222) (off := 190) dL_law_32 (by decide) (by decide) (by decide) (by decide) ?_
          exact lc_4 hX hb0 hL h5 hR hN kk
        · refine pw_tabIn hX (tgt := 245) (off := 213) dL_law_32 (by decide) (by decide) (by decide) (by decide) ?_
          exact lc_5 hX hb0 hL h5 hR hN kk
        · refine pw_tabIn hX (tgt := 278) (off := 246) dL_law_32 (by decide) (by decide) (by decide) (by decide) ?_
          exact lc_6 hX hb0 hL h5 hR hN kk
        · refine pw_tabIn hX (tgt := 331) (off := 299) dL_law_32 (by decide) (by decide) (by decide) (by decide) ?_
          exact lc_7 hX hb0 hL h5 hR hN kk
        · refine pw_tabIn hX (tgt := 364) (off := 332) dL_law_32 (by decide) (by decide) (by decide) (by decide) ?_
          exact lc_8 hX hb0 hL h5 hR hN kk
        · refine pw_tabIn hX (tgt := 397) (off := 365) dL_law_32 (by decide) (by decide) (by decide) (by decide) ?_
          exact lc_9 hX hb0 hL h5 hR hN kk
        · refine pw_tabIn hX (tgt := 440) (off := 408) dL_law_32 (by decide) (by decide) (by decide) (by decide) ?_
          exact lc_10 hX hb0 hL h5 hR hN kk
        · refine pw_tabIn hX (tgt := 463) (off := 431) dL_law_32 (by decide) (by decide) (by decide) (by decide) ?_
          exact lc_11 hX hb0 hL h5 hR hN kk
        · refine pw_tabIn hX (tgt := 486) (off := 454) dL_law_32 (by decide) (by decide) (by decide) (by decide) ?_
          exact lc_12 hX hb0 hL h5 hR hN kk
        · refine pw_tabIn hX (tgt := 519) (off := 487) dL_law_32 (by decide) (by decide) (by decide) (by decide) ?_
          exact lc_13 hX hb0 hL h5 hR hN kk
        · refine pw_tabIn hX (tgt := 542) (off := 510) dL_law_32 (by decide) (by decide) (by decide) (by decide) ?_
          exact lc_14 hX hb0 hL h5 hR hN kk
        · refine pw_tabIn hX (tgt := 585) (off := 553) dL_law_32 (by decide) (by decide) (by decide) (by decide) ?_
          exact lc_15 hX hb0 hL h5 hR hN kk
        · refine pw_tabIn hX (tgt := 608) (off := 576) dL_law_32 (by decide) (by decide) (by decide) (by decide) ?_
          exact lc_16 hX hb0 hL h5 hR hN kk
        · refine pw_tabIn hX (tgt := 621) (off := 589) dL_law_32 (by decide) (by decide) (by decide) (by decide) ?_
          exact lc_17 hX hb0 hL h5 hR hN kk
        · refine pw_tabIn hX (tgt := 644) (off := 612) dL_law_32 (by decide) (by decide) (by decide) (by decide) ?_
          exact lc_18 hX hb0 hL h5 hR hN kk
        · refine pw_tabIn hX (tgt := 657) (off := 625) dL_law_32 (by decide) (by decide) (by decide) (by decide) ?_
          exact lc_19 hX hb0 hL h5 hR hN kk
        · refine pw_tabIn hX (tgt := 680) (off := 648) dL_law_32 (by decide) (by decide) (by decide) (by decide) ?_
          exact lc_20 hX hb0 hL h5 hR hN kk
        · refine pw_tabIn hX (tgt := 693) (off := 661) dL_law_32 (by decide) (by decide) (by decide) (by decide) ?_
          exact lc_21 hX hb0 hL h5 hR hN kk
        · refine pw_tabIn hX (tgt := 716) (off := 684) dL_law_32 (by decide) (by decide) (by decide) (by decide) ?_
          exact lc_22 hX hb0 hL h5 hR hN kk
      · refine pw_tabOut hX (tgt := 729) dL_law_32 ?_ (by decide) ?_
        · have hv2 : ¬ ((0 : Int) ≤ v.toInt ∧ v.toInt ≤ 22) := fun z => hv (decide_eq_true z)
          rcases Int.lt_or_le v.toInt 0 with z | z
          · exact Or.inl z
          · exact Or.inr (by omega)
        · exact kk w (RW_le hR (by omega))
