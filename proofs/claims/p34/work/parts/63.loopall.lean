theorem lp_len {Ln : Nat} (h : Ln ≤ 3072) : (Int32.ofNat Ln).toInt = Ln := by
  rw [Int32.toInt_ofNat_of_lt (by omega)]
theorem nu_le' {x y : Int32} (h : ¬ x > y) : x.toInt ≤ y.toInt := Int32.le_iff_toInt_le.mp (Int32.not_lt.mp h)
theorem dL_law_20 : decode cL_law 20 = .ok (.iconst 0, 1) := by decide +kernel
theorem dL_law_21 : decode cL_law 21 = .ok (.istore 4, 2) := by decide +kernel
theorem dL_law_23 : decode cL_law 23 = .ok (.iload 4, 2) := by decide +kernel
theorem dL_law_25 : decode cL_law 25 = .ok (.aload_n 0, 1) := by decide +kernel
theorem dL_law_26 : decode cL_law 26 = .ok (.arraylength, 1) := by decide +kernel
theorem dL_law_27 : decode cL_law 27 = .ok (.bipush 6, 2) := by decide +kernel
theorem dL_law_29 : decode cL_law 29 = .ok (.isub, 1) := by decide +kernel
theorem dL_law_30 : decode cL_law 30 = .ok (.if_icmp .gt 1076, 3) := by decide +kernel
theorem dL_law_33 : decode cL_law 33 = .ok (.aload_n 0, 1) := by decide +kernel
theorem dL_law_34 : decode cL_law 34 = .ok (.iload 4, 2) := by decide +kernel
theorem dL_law_36 : decode cL_law 36 = .ok (.iaload, 1) := by decide +kernel
theorem dL_law_37 : decode cL_law 37 = .ok (.bipush 63, 2) := by decide +kernel
theorem dL_law_39 : decode cL_law 39 = .ok (.iand, 1) := by decide +kernel
theorem dL_law_40 : decode cL_law 40 = .ok (.tableswitch 1060 0 32 #[148, 209, 234, 283, 320, 345, 370, 407, 432, 481, 494, 567, 592, 605, 618, 631, 668, 705, 742, 779, 804, 817, 842, 867, 892, 905, 930, 943, 971, 1008, 1021, 1034, 1047], 148) := by decide +kernel
theorem dL_law_1100 : decode cL_law 1100 = .ok (.iinc 4 6, 3) := by decide +kernel
theorem dL_law_1103 : decode cL_law 1103 = .ok (.goto (-1080), 3) := by decide +kernel
theorem dL_law_1106 : decode cL_law 1106 = .ok (.iconst 1, 1) := by decide +kernel
theorem dL_law_1107 : decode cL_law 1107 = .ok (.ireturn, 1) := by decide +kernel
theorem lp_end {p : Program} {l : Launch} {e : Env} {s : State} {m : MethodId} {below : List Frame} {meth : Method} {c : Code} {b : Nat} (hx : p.tables.exec = Jvm.exec) (hb : c.code = cL_law) (hr : meth.sig.returnType = ret) (hlk : meth.locks = false) {H : Heap} {locs : List Loc} {cells slots : Nat} {ls : Array Slot} (hf : ∀ q ∈ locs, s.heap.size ≤ q.base) (hc : cells ≤ 601024) (hs : slots ≤ 7293034) : W p l e room_1 s m #[Value.ref b] below meth c H locs cells slots (lw_Z below #[Value.ref b] s) (F0 m 1106 ls []) := by
  refine va_forget hf ?_
  refine W.widen (k := 601024) (n := 7293034) hc hs ?_
  refine lv_iconst (v := 1) hx hb dL_law_1106 (by decide +kernel) ?_
  exact lw_ret hx hb hr hlk dL_law_1107
set_option maxHeartbeats 8000000 in
set_option maxRecDepth 100000 in
theorem lp_all {p : Program} {l : Launch} {e : Env} {s : State} {m : MethodId} {below : List Frame} {meth : Method} {c : Code} {D : va_G} {cy : Nat → ClassId} {G : Sg} {tx : String} {sa : Nat} {cL : ClassId} {b Ln : Nat} {xs : Nat → Int32} (X : LC p l s m meth c D cy (fun q => s.heap.size ≤ q) G tx sa cL b Ln xs) (hr : meth.sig.returnType = ret) (hlk : meth.locks = false) {x mm ao : Nat} : ∀ (n : Nat) (L : List Nat) (τ : Nat → Ro) (E : Ec) (H : Heap) (locs : List Loc) (cells slots : Nat) (i : Int32) (ls : Array Slot), NowG D cy (fun q => s.heap.size ≤ q) s L τ E H locs → LI cL L τ E x mm ao → TI L τ E mm → 0 ≤ i.toInt → (Ln : Int) - i.toInt < 6 * (n : Int) + 6 → i.toInt ≤ 3078 → cells + 5 * n ≤ 601024 → slots + 262 * n ≤ 7293034 → lv_has ls 7 [(4, .int i), (0, .ref b), (1, .ref x), (2, .ref mm), (3, .ref ao)] → W p l e room_1 s m #[Value.ref b] below meth c H locs cells slots (lw_Z below #[Value.ref b] s) (F0 m 23 ls []) := by
  have X' := X
  obtain ⟨C, hK, hN, hA, SZ, TZ, hKL, hX, hbl, hbA, hlt, hLn⟩ := X'
  have hx := C.1
  have hb := C.2.1
  intro n
  induction n with
  | zero =>
    intro L τ E H locs cells slots i ls S J Jt hi hn hu hc hs hl
    refine lv_iload hx hb dL_law_23 (lv_at hl 0 rfl) ?_
    refine lv_aload_n hx hb dL_law_25 rfl (lv_at hl 1 rfl) ?_
    refine va_slen hx hb hX hbl hbA S.1.2.2 dL_law_26 ?_
    refine lv_topi (fun u eu => ?_)
    have tu : u.toInt = Ln := by rw [eu]; exact lp_len hLn
    obtain ⟨v6, e6, t6⟩ : ∃ v : Int32, (Int8.ofInt (6)).toInt32 = v ∧ v.toInt = 6 := ⟨_, rfl, by decide +kernel⟩
    refine lv_bipush hx hb dL_law_27 e6 ?_
    refine lv_isub hx hb dL_law_29 ?_
    refine lv_topi (fun w ew => ?_)
    have tw := nu_sub ew (by omega) (by omega)
    refine lv_icmp_gt (tgt := 1106) hx hb dL_law_30 (by decide) (fun _ => ?_) (fun h => ?_)
    · exact lp_end hx hb hr hlk S.1.2.2.2.2 (by omega) (by omega)
    · exact absurd (nu_le' h) (by omega)
  | succ n ih =>
    intro L τ E H locs cells slots i ls S J Jt hi hn hu hc hs hl
    refine lv_iload hx hb dL_law_23 (lv_at hl 0 rfl) ?_
    refine lv_aload_n hx hb dL_law_25 rfl (lv_at hl 1 rfl) ?_
    refine va_slen hx hb hX hbl hbA S.1.2.2 dL_law_26 ?_
    refine lv_topi (fun u eu => ?_)
    have tu : u.toInt = Ln := by rw [eu]; exact lp_len hLn
    obtain ⟨v6, e6, t6⟩ : ∃ v : Int32, (Int8.ofInt (6)).toInt32 = v ∧ v.toInt = 6 := ⟨_, rfl, by decide +kernel⟩
    refine lv_bipush hx hb dL_law_27 e6 ?_
    refine lv_isub hx hb dL_law_29 ?_
    refine lv_topi (fun w ew => ?_)
    have tw := nu_sub ew (by omega) (by omega)
    refine lv_icmp_gt (tgt := 1106) hx hb dL_law_30 (by decide) (fun _ => ?_) (fun h => ?_)
    · exact lp_end hx hb hr hlk S.1.2.2.2.2 (by omega) (by omega)
    have h6 := nu_le' h
    have hi6 : i.toInt + 6 ≤ Ln := by omega
    have kk : ∀ (L' : List Nat) (τ' : Nat → Ro) (E' : Ec) (H' : Heap) (locs' : List Loc) (ls' : Array Slot), NowG D cy (fun q => s.heap.size ≤ q) s L' τ' E' H' locs' → LI cL L' τ' E' x mm ao → TI L' τ' E' mm → lv_has ls' 7 [(4, .int i), (0, .ref b), (1, .ref x), (2, .ref mm), (3, .ref ao)] → W p l e room_1 s m #[Value.ref b] below meth c H' locs' (cells + 5) (slots + 262) (lw_Z below #[Value.ref b] s) (F0 m 1100 ls' []) := by
      intro L' τ' E' H' locs' ls' S' J' Jt' hl'
      obtain ⟨y, ey⟩ : ∃ y : Int32, i + Int32.ofInt (6) = y := ⟨_, rfl⟩
      have t6' : (Int32.ofInt (6)).toInt = 6 := by decide +kernel
      have ty : y.toInt = i.toInt + 6 := by rw [← ey]; exact (fb_addI (by rw [t6']; omega) (by rw [t6']; omega)).trans (by rw [t6'])
      refine lv_iinc (v := y) (lv' := [(4, .int y), (0, .ref b), (1, .ref x), (2, .ref mm), (3, .ref ao)]) hx hb dL_law_1100 hl' (k := 0) rfl ey (by decide) rfl (fun l3 hl3 => ?_)
      refine lv_goto (tgt := 23) hx hb dL_law_1103 (by decide) ?_
      exact ih L' τ' E' H' locs' (cells + 5) (slots + 262) y l3 S' J' Jt' (by omega) (by omega) (by omega) (by omega) (by omega) hl3
    have hc5 : cells + 5 ≤ 601024 := by omega
    have hs5 : slots + 262 ≤ 7293034 := by omega
    refine lv_aload_n hx hb dL_law_33 rfl (lv_at hl 1 rfl) ?_
    refine lv_iload hx hb dL_law_34 (lv_at hl 0 rfl) ?_
    refine va_sld hx hb hX hbl hbA S.1.2.2 (tr_in (by omega) (by omega)) dL_law_36 ?_
    refine lv_topi (fun z ez => ?_)
    obtain ⟨v63, e63, t63⟩ : ∃ v : Int32, (Int8.ofInt (63)).toInt32 = v ∧ v.toInt = 63 := ⟨_, rfl, by decide +kernel⟩
    refine lv_bipush hx hb dL_law_37 e63 ?_
    refine lv_iand hx hb dL_law_39 ?_
    refine lv_topi (fun t et => ?_)
    by_cases c0 : t.toInt = 0
    · refine lv_tableIn (off := 148) (tgt := 188) hx hb dL_law_40 (by omega) (by omega) (by rw [c0]; rfl) (by decide) ?_
      exact cs_0 X S J Jt hi hi6 hl hc5 hs5 kk
    by_cases c1 : t.toInt = 1
    · refine lv_tableIn (off := 209) (tgt := 249) hx hb dL_law_40 (by omega) (by omega) (by rw [c1]; rfl) (by decide) ?_
      exact cs_1 X S J Jt hi hi6 hl hc5 hs5 kk
    by_cases c2 : t.toInt = 2
    · refine lv_tableIn (off := 234) (tgt := 274) hx hb dL_law_40 (by omega) (by omega) (by rw [c2]; rfl) (by decide) ?_
      exact cs_2 X S J Jt hi hi6 hl hc5 hs5 kk
    by_cases c3 : t.toInt = 3
    · refine lv_tableIn (off := 283) (tgt := 323) hx hb dL_law_40 (by omega) (by omega) (by rw [c3]; rfl) (by decide) ?_
      exact cs_3 X S J Jt hi hi6 hl hc5 hs5 kk
    by_cases c4 : t.toInt = 4
    · refine lv_tableIn (off := 320) (tgt := 360) hx hb dL_law_40 (by omega) (by omega) (by rw [c4]; rfl) (by decide) ?_
      exact cs_4 X S J Jt hi hi6 hl hc5 hs5 kk
    by_cases c5 : t.toInt = 5
    · refine lv_tableIn (off := 345) (tgt := 385) hx hb dL_law_40 (by omega) (by omega) (by rw [c5]; rfl) (by decide) ?_
      exact cs_5 X S J Jt hi hi6 hl hc5 hs5 kk
    by_cases c6 : t.toInt = 6
    · refine lv_tableIn (off := 370) (tgt := 410) hx hb dL_law_40 (by omega) (by omega) (by rw [c6]; rfl) (by decide) ?_
      exact cs_6 X S J Jt hi hi6 hl hc5 hs5 kk
    by_cases c7 : t.toInt = 7
    · refine lv_tableIn (off := 407) (tgt := 447) hx hb dL_law_40 (by omega) (by omega) (by rw [c7]; rfl) (by decide) ?_
      exact cs_7 X S J Jt hi hi6 hl hc5 hs5 kk
    by_cases c8 : t.toInt = 8
    · refine lv_tableIn (off := 432) (tgt := 472) hx hb dL_law_40 (by omega) (by omega) (by rw [c8]; rfl) (by decide) ?_
      exact cs_8 X S J Jt hi hi6 hl hc5 hs5 kk
    by_cases c9 : t.toInt = 9
    · refine lv_tableIn (off := 481) (tgt := 521) hx hb dL_law_40 (by omega) (by omega) (by rw [c9]; rfl) (by decide) ?_
      exact cs_9 X S J Jt hi hi6 hl hc5 hs5 kk
    by_cases c10 : t.toInt = 10
    · refine lv_tableIn (off := 494) (tgt := 534) hx hb dL_law_40 (by omega) (by omega) (by rw [c10]; rfl) (by decide) ?_
      exact cs_10 X S J Jt hi hi6 hl hc5 hs5 kk
    by_cases c11 : t.toInt = 11
    · refine lv_tableIn (off := 567) (tgt := 607) hx hb dL_law_40 (by omega) (by omega) (by rw [c11]; rfl) (by decide) ?_
      exact cs_11 X S J Jt hi hi6 hl hc5 hs5 kk
    by_cases c12 : t.toInt = 12
    · refine lv_tableIn (off := 592) (tgt := 632) hx hb dL_law_40 (by omega) (by omega) (by rw [c12]; rfl) (by decide) ?_
      exact cs_12 X S J Jt hi hi6 hl hc5 hs5 kk
    by_cases c13 : t.toInt = 13
    · refine lv_tableIn (off := 605) (tgt := 645) hx hb dL_law_40 (by omega) (by omega) (by rw [c13]; rfl) (by decide) ?_
      exact cs_13 X S J Jt hi hi6 hl hc5 hs5 kk
    by_cases c14 : t.toInt = 14
    · refine lv_tableIn (off := 618) (tgt := 658) hx hb dL_law_40 (by omega) (by omega) (by rw [c14]; rfl) (by decide) ?_
      exact cs_14 X S J Jt hi hi6 hl hc5 hs5 kk
    by_cases c15 : t.toInt = 15
    · refine lv_tableIn (off := 631) (tgt := 671) hx hb dL_law_40 (by omega) (by omega) (by rw [c15]; rfl) (by decide) ?_
      exact cs_15 X S J Jt hi hi6 hl hc5 hs5 kk
    by_cases c16 : t.toInt = 16
    · refine lv_tableIn (off := 668) (tgt := 708) hx hb dL_law_40 (by omega) (by omega) (by rw [c16]; rfl) (by decide) ?_
      exact cs_16 X S J Jt hi hi6 hl hc5 hs5 kk
    by_cases c17 : t.toInt = 17
    · refine lv_tableIn (off := 705) (tgt := 745) hx hb dL_law_40 (by omega) (by omega) (by rw [c17]; rfl) (by decide) ?_
      exact cs_17 X S J Jt hi hi6 hl hc5 hs5 kk
    by_cases c18 : t.toInt = 18
    · refine lv_tableIn (off := 742) (tgt := 782) hx hb dL_law_40 (by omega) (by omega) (by rw [c18]; rfl) (by decide) ?_
      exact cs_18 X S J Jt hi hi6 hl hc5 hs5 kk
    by_cases c19 : t.toInt = 19
    · refine lv_tableIn (off := 779) (tgt := 819) hx hb dL_law_40 (by omega) (by omega) (by rw [c19]; rfl) (by decide) ?_
      exact cs_19 X S J Jt hi hi6 hl hc5 hs5 kk
    by_cases c20 : t.toInt = 20
    · refine lv_tableIn (off := 804) (tgt := 844) hx hb dL_law_40 (by omega) (by omega) (by rw [c20]; rfl) (by decide) ?_
      exact cs_20 X S J Jt hi hi6 hl hc5 hs5 kk
    by_cases c21 : t.toInt = 21
    · refine lv_tableIn (off := 817) (tgt := 857) hx hb dL_law_40 (by omega) (by omega) (by rw [c21]; rfl) (by decide) ?_
      exact cs_21 X S J Jt hi hi6 hl hc5 hs5 kk
    by_cases c22 : t.toInt = 22
    · refine lv_tableIn (off := 842) (tgt := 882) hx hb dL_law_40 (by omega) (by omega) (by rw [c22]; rfl) (by decide) ?_
      exact cs_22 X S J Jt hi hi6 hl hc5 hs5 kk
    by_cases c23 : t.toInt = 23
    · refine lv_tableIn (off := 867) (tgt := 907) hx hb dL_law_40 (by omega) (by omega) (by rw [c23]; rfl) (by decide) ?_
      exact cs_23 X S J Jt hi hi6 hl hc5 hs5 kk
    by_cases c24 : t.toInt = 24
    · refine lv_tableIn (off := 892) (tgt := 932) hx hb dL_law_40 (by omega) (by omega) (by rw [c24]; rfl) (by decide) ?_
      exact cs_24 X S J Jt hi hi6 hl hc5 hs5 kk
    by_cases c25 : t.toInt = 25
    · refine lv_tableIn (off := 905) (tgt := 945) hx hb dL_law_40 (by omega) (by omega) (by rw [c25]; rfl) (by decide) ?_
      exact cs_25 X S J Jt hi hi6 hl hc5 hs5 kk
    by_cases c26 : t.toInt = 26
    · refine lv_tableIn (off := 930) (tgt := 970) hx hb dL_law_40 (by omega) (by omega) (by rw [c26]; rfl) (by decide) ?_
      exact cs_26 X S J Jt hi hi6 hl hc5 hs5 kk
    by_cases c27 : t.toInt = 27
    · refine lv_tableIn (off := 943) (tgt := 983) hx hb dL_law_40 (by omega) (by omega) (by rw [c27]; rfl) (by decide) ?_
      exact cs_27 X S J Jt hi hi6 hl hc5 hs5 kk
    by_cases c28 : t.toInt = 28
    · refine lv_tableIn (off := 971) (tgt := 1011) hx hb dL_law_40 (by omega) (by omega) (by rw [c28]; rfl) (by decide) ?_
      exact cs_28 X S J Jt hi hi6 hl hc5 hs5 kk
    by_cases c29 : t.toInt = 29
    · refine lv_tableIn (off := 1008) (tgt := 1048) hx hb dL_law_40 (by omega) (by omega) (by rw [c29]; rfl) (by decide) ?_
      exact cs_29 X S J Jt hi hi6 hl hc5 hs5 kk
    by_cases c30 : t.toInt = 30
    · refine lv_tableIn (off := 1021) (tgt := 1061) hx hb dL_law_40 (by omega) (by omega) (by rw [c30]; rfl) (by decide) ?_
      exact cs_30 X S J Jt hi hi6 hl hc5 hs5 kk
    by_cases c31 : t.toInt = 31
    · refine lv_tableIn (off := 1034) (tgt := 1074) hx hb dL_law_40 (by omega) (by omega) (by rw [c31]; rfl) (by decide) ?_
      exact cs_31 X S J Jt hi hi6 hl hc5 hs5 kk
    by_cases c32 : t.toInt = 32
    · refine lv_tableIn (off := 1047) (tgt := 1087) hx hb dL_law_40 (by omega) (by omega) (by rw [c32]; rfl) (by decide) ?_
      exact cs_32 X S J Jt hi hi6 hl hc5 hs5 kk
    refine lv_tableOut (tgt := 1100) hx hb dL_law_40 (by omega) (by decide) ?_
    refine W.widen (k := cells + 5) (n := slots + 262) (by omega) (by omega) ?_
    exact kk L τ E H locs ls S J Jt hl
