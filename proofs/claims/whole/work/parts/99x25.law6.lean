/-! the law's switch and its loop -/
section LWF
variable {p : Program} {l : Launch} {e : Env} {s : State} {m : MethodId} {args : Array Value} {below : List Frame} {meth : Method} {c : Code} {Q : State → Prop} {D : va_G} {ca : Nat → ClassId} {adC adM adV : Nat → Nat} {ao : Nat} {A : Nat → Prop} {b L : Nat} {xs : Nat → Int32} {Th : Launch → Array Value → State → (Nat → Prop) → Prop}
theorem lw_sw {H : Heap} {locs : List Loc} {cells slots : Nat} {MC MM : TM} {fo : Nat → Int64} {ls : Array Slot} {i k : Nat} (hIX : ti_IXok) (h6 : lw_Case Th 358) (h7 : lw_Case Th 426) (h50 : lw_Case Th 1388) (hT : Th l args s A) (K : lw_K p s m args c D ca adC adM adV ao A b L xs) (hl : lv_has ls 8 (lw_ls b adC adM ao i)) (hi : i + 5 ≤ L) (hI : LI D ca adC adM ao MC MM fo H) (hS : va_S A s.heap H locs) (hrel : REL k MC MM) (hk : k < 1000) (hce : cells + 1 ≤ room_1.cells) (hsl : slots + 6 ≤ room_1.slots) (kk : ∀ (H : Heap) (locs : List Loc) (MC MM : TM) (fo : Nat → Int64) (ls : Array Slot) (k2 : Nat), k2 ≤ k + 1 → lv_has ls 8 (lw_ls b adC adM ao i) → REL k2 MC MM → LI D ca adC adM ao MC MM fo H → va_S A s.heap H locs → W p l e room_1 s m args below meth c H locs (cells + 1) (slots + 6) Q (F0 m 1443 ls [])) (n : Nat) (hn : n < 64) : W p l e room_1 s m args below meth c H locs cells slots Q (F0 m 39 ls [.int (nI n)]) := by
  have w1 : cells ≤ room_1.cells := Nat.le_of_succ_le hce
  have w2 : slots ≤ room_1.slots := by omega
  have kk1 : ∀ (H : Heap) (locs : List Loc) (MC MM : TM), REL (k + 1) MC MM → LI D ca adC adM ao MC MM fo H → va_S A s.heap H locs → W p l e room_1 s m args below meth c H locs cells slots Q (F0 m 1443 ls []) := fun H locs MC MM a b c => W.widen (k := cells + 1) (n := slots + 6) (by omega) (by omega) (kk H locs MC MM fo ls (k + 1) (Nat.le_refl _) hl a b c)
  match n, hn with
  | 0, _ => exact lv_tableIn (off := 217) (tgt := 256) K.1.1 K.1.2.1 dL_law_39 (by decide) (by decide) (by decide) (by decide) (la_0 hIX K hl hi hI hS hrel hk w1 w2 kk1)
  | 1, _ => exact lv_tableIn (off := 242) (tgt := 281) K.1.1 K.1.2.1 dL_law_39 (by decide) (by decide) (by decide) (by decide) (la_1 hIX K hl hi hI hS hrel hk w1 w2 kk1)
  | 2, _ => exact lv_tableIn (off := 267) (tgt := 306) K.1.1 K.1.2.1 dL_law_39 (by decide) (by decide) (by decide) (by decide) (la_2 hIX K hl hi hI hS hrel hk w1 w2 kk1)
  | 3, _ => exact lv_tableIn (off := 280) (tgt := 319) K.1.1 K.1.2.1 dL_law_39 (by decide) (by decide) (by decide) (by decide) (la_3 hIX K hl hi hI hS hrel hk w1 w2 kk1)
  | 4, _ => exact lv_tableIn (off := 293) (tgt := 332) K.1.1 K.1.2.1 dL_law_39 (by decide) (by decide) (by decide) (by decide) (la_4 hIX K hl hi hI hS hrel hk w1 w2 kk1)
  | 5, _ => exact lv_tableIn (off := 306) (tgt := 345) K.1.1 K.1.2.1 dL_law_39 (by decide) (by decide) (by decide) (by decide) (la_5 hIX K hl hi hI hS hrel hk w1 w2 kk1)
  | 6, _ => exact lv_tableIn (off := 319) (tgt := 358) K.1.1 K.1.2.1 dL_law_39 (by decide) (by decide) (by decide) (by decide) (h6 hT K hl hi hI hS hrel hk hce hsl (fun H locs MC MM fo ls h0 h1 h2 h3 => kk H locs MC MM fo ls (k + 1) (Nat.le_refl _) h0 h1 h2 h3))
  | 7, _ => exact lv_tableIn (off := 387) (tgt := 426) K.1.1 K.1.2.1 dL_law_39 (by decide) (by decide) (by decide) (by decide) (h7 hT K hl hi hI hS hrel hk hce hsl (fun H locs MC MM fo ls h0 h1 h2 h3 => kk H locs MC MM fo ls (k + 1) (Nat.le_refl _) h0 h1 h2 h3))
  | 8, _ => exact lv_tableIn (off := 455) (tgt := 494) K.1.1 K.1.2.1 dL_law_39 (by decide) (by decide) (by decide) (by decide) (la_8 hIX K hl hi hI hS hrel hk w1 w2 kk1)
  | 9, _ => exact lv_tableIn (off := 468) (tgt := 507) K.1.1 K.1.2.1 dL_law_39 (by decide) (by decide) (by decide) (by decide) (la_9 hIX K hl hi hI hS hrel hk w1 w2 kk1)
  | 10, _ => exact lv_tableIn (off := 493) (tgt := 532) K.1.1 K.1.2.1 dL_law_39 (by decide) (by decide) (by decide) (by decide) (la_10 hIX K hl hi hI hS hrel hk w1 w2 kk1)
  | 11, _ => exact lv_tableIn (off := 554) (tgt := 593) K.1.1 K.1.2.1 dL_law_39 (by decide) (by decide) (by decide) (by decide) (la_11 hIX K hl hi hI hS hrel hk w1 w2 kk1)
  | 12, _ => exact lv_tableIn (off := 567) (tgt := 606) K.1.1 K.1.2.1 dL_law_39 (by decide) (by decide) (by decide) (by decide) (la_12 hIX K hl hi hI hS hrel hk w1 w2 kk1)
  | 13, _ => exact lv_tableIn (off := 592) (tgt := 631) K.1.1 K.1.2.1 dL_law_39 (by decide) (by decide) (by decide) (by decide) (la_13 hIX K hl hi hI hS hrel hk w1 w2 kk1)
  | 14, _ => exact lv_tableIn (off := 617) (tgt := 656) K.1.1 K.1.2.1 dL_law_39 (by decide) (by decide) (by decide) (by decide) (la_14 hIX K hl hi hI hS hrel hk w1 w2 kk1)
  | 15, _ => exact lv_tableIn (off := 642) (tgt := 681) K.1.1 K.1.2.1 dL_law_39 (by decide) (by decide) (by decide) (by decide) (la_15 hIX K hl hi hI hS hrel hk w1 w2 kk1)
  | 16, _ => exact lv_tableIn (off := 667) (tgt := 706) K.1.1 K.1.2.1 dL_law_39 (by decide) (by decide) (by decide) (by decide) (la_16 hIX K hl hi hI hS hrel hk w1 w2 kk1)
  | 17, _ => exact lv_tableIn (off := 680) (tgt := 719) K.1.1 K.1.2.1 dL_law_39 (by decide) (by decide) (by decide) (by decide) (la_17 hIX K hl hi hI hS hrel hk w1 w2 kk1)
  | 18, _ => exact lv_tableIn (off := 693) (tgt := 732) K.1.1 K.1.2.1 dL_law_39 (by decide) (by decide) (by decide) (by decide) (la_18 hIX K hl hi hI hS hrel hk w1 w2 kk1)
  | 19, _ => exact lv_tableIn (off := 718) (tgt := 757) K.1.1 K.1.2.1 dL_law_39 (by decide) (by decide) (by decide) (by decide) (la_19 hIX K hl hi hI hS hrel hk w1 w2 kk1)
  | 20, _ => exact lv_tableIn (off := 731) (tgt := 770) K.1.1 K.1.2.1 dL_law_39 (by decide) (by decide) (by decide) (by decide) (la_20 hIX K hl hi hI hS hrel hk w1 w2 kk1)
  | 21, _ => exact lv_tableIn (off := 744) (tgt := 783) K.1.1 K.1.2.1 dL_law_39 (by decide) (by decide) (by decide) (by decide) (la_21 hIX K hl hi hI hS hrel hk w1 w2 kk1)
  | 22, _ => exact lv_tableIn (off := 757) (tgt := 796) K.1.1 K.1.2.1 dL_law_39 (by decide) (by decide) (by decide) (by decide) (la_22 hIX K hl hi hI hS hrel hk w1 w2 kk1)
  | 23, _ => exact lv_tableIn (off := 770) (tgt := 809) K.1.1 K.1.2.1 dL_law_39 (by decide) (by decide) (by decide) (by decide) (la_23 hIX K hl hi hI hS hrel hk w1 w2 kk1)
  | 24, _ => exact lv_tableIn (off := 783) (tgt := 822) K.1.1 K.1.2.1 dL_law_39 (by decide) (by decide) (by decide) (by decide) (la_24 hIX K hl hi hI hS hrel hk w1 w2 kk1)
  | 25, _ => exact lv_tableIn (off := 808) (tgt := 847) K.1.1 K.1.2.1 dL_law_39 (by decide) (by decide) (by decide) (by decide) (la_25 hIX K hl hi hI hS hrel hk w1 w2 kk1)
  | 26, _ => exact lv_tableIn (off := 821) (tgt := 860) K.1.1 K.1.2.1 dL_law_39 (by decide) (by decide) (by decide) (by decide) (la_26 hIX K hl hi hI hS hrel hk w1 w2 kk1)
  | 27, _ => exact lv_tableIn (off := 834) (tgt := 873) K.1.1 K.1.2.1 dL_law_39 (by decide) (by decide) (by decide) (by decide) (la_27 hIX K hl hi hI hS hrel hk w1 w2 kk1)
  | 28, _ => exact lv_tableIn (off := 847) (tgt := 886) K.1.1 K.1.2.1 dL_law_39 (by decide) (by decide) (by decide) (by decide) (la_28 hIX K hl hi hI hS hrel hk w1 w2 kk1)
  | 29, _ => exact lv_tableIn (off := 872) (tgt := 911) K.1.1 K.1.2.1 dL_law_39 (by decide) (by decide) (by decide) (by decide) (la_29 hIX K hl hi hI hS hrel hk w1 w2 kk1)
  | 30, _ => exact lv_tableIn (off := 885) (tgt := 924) K.1.1 K.1.2.1 dL_law_39 (by decide) (by decide) (by decide) (by decide) (la_30 hIX K hl hi hI hS hrel hk w1 w2 kk1)
  | 31, _ => exact lv_tableIn (off := 910) (tgt := 949) K.1.1 K.1.2.1 dL_law_39 (by decide) (by decide) (by decide) (by decide) (la_31 hIX K hl hi hI hS hrel hk w1 w2 kk1)
  | 32, _ => exact lv_tableIn (off := 935) (tgt := 974) K.1.1 K.1.2.1 dL_law_39 (by decide) (by decide) (by decide) (by decide) (la_32 hIX K hl hi hI hS hrel hk w1 w2 kk1)
  | 33, _ => exact lv_tableIn (off := 960) (tgt := 999) K.1.1 K.1.2.1 dL_law_39 (by decide) (by decide) (by decide) (by decide) (la_33 hIX K hl hi hI hS hrel hk w1 w2 kk1)
  | 34, _ => exact lv_tableIn (off := 973) (tgt := 1012) K.1.1 K.1.2.1 dL_law_39 (by decide) (by decide) (by decide) (by decide) (la_34 hIX K hl hi hI hS hrel hk w1 w2 kk1)
  | 35, _ => exact lv_tableIn (off := 1010) (tgt := 1049) K.1.1 K.1.2.1 dL_law_39 (by decide) (by decide) (by decide) (by decide) (la_35 hIX K hl hi hI hS hrel hk w1 w2 kk1)
  | 36, _ => exact lv_tableIn (off := 1023) (tgt := 1062) K.1.1 K.1.2.1 dL_law_39 (by decide) (by decide) (by decide) (by decide) (la_36 hIX K hl hi hI hS hrel hk w1 w2 kk1)
  | 37, _ => exact lv_tableIn (off := 1036) (tgt := 1075) K.1.1 K.1.2.1 dL_law_39 (by decide) (by decide) (by decide) (by decide) (la_37 hIX K hl hi hI hS hrel hk w1 w2 kk1)
  | 38, _ => exact lv_tableIn (off := 1049) (tgt := 1088) K.1.1 K.1.2.1 dL_law_39 (by decide) (by decide) (by decide) (by decide) (la_38 hIX K hl hi hI hS hrel hk w1 w2 kk1)
  | 39, _ => exact lv_tableIn (off := 1062) (tgt := 1101) K.1.1 K.1.2.1 dL_law_39 (by decide) (by decide) (by decide) (by decide) (la_39 hIX K hl hi hI hS hrel hk w1 w2 kk1)
  | 40, _ => exact lv_tableIn (off := 1099) (tgt := 1138) K.1.1 K.1.2.1 dL_law_39 (by decide) (by decide) (by decide) (by decide) (la_40 hIX K hl hi hI hS hrel hk w1 w2 kk1)
  | 41, _ => exact lv_tableIn (off := 1148) (tgt := 1187) K.1.1 K.1.2.1 dL_law_39 (by decide) (by decide) (by decide) (by decide) (la_41 hIX K hl hi hI hS hrel hk w1 w2 kk1)
  | 42, _ => exact lv_tableIn (off := 1161) (tgt := 1200) K.1.1 K.1.2.1 dL_law_39 (by decide) (by decide) (by decide) (by decide) (la_42 hIX K hl hi hI hS hrel hk w1 w2 kk1)
  | 43, _ => exact lv_tableIn (off := 1174) (tgt := 1213) K.1.1 K.1.2.1 dL_law_39 (by decide) (by decide) (by decide) (by decide) (la_43 hIX K hl hi hI hS hrel hk w1 w2 kk1)
  | 44, _ => exact lv_tableIn (off := 1199) (tgt := 1238) K.1.1 K.1.2.1 dL_law_39 (by decide) (by decide) (by decide) (by decide) (la_44 hIX K hl hi hI hS hrel hk w1 w2 kk1)
  | 45, _ => exact lv_tableIn (off := 1224) (tgt := 1263) K.1.1 K.1.2.1 dL_law_39 (by decide) (by decide) (by decide) (by decide) (la_45 hIX K hl hi hI hS hrel hk w1 w2 kk1)
  | 46, _ => exact lv_tableIn (off := 1237) (tgt := 1276) K.1.1 K.1.2.1 dL_law_39 (by decide) (by decide) (by decide) (by decide) (la_46 hIX K hl hi hI hS hrel hk w1 w2 kk1)
  | 47, _ => exact lv_tableIn (off := 1274) (tgt := 1313) K.1.1 K.1.2.1 dL_law_39 (by decide) (by decide) (by decide) (by decide) (la_47 hIX K hl hi hI hS hrel hk w1 w2 kk1)
  | 48, _ => exact lv_tableIn (off := 1299) (tgt := 1338) K.1.1 K.1.2.1 dL_law_39 (by decide) (by decide) (by decide) (by decide) (la_48 hIX K hl hi hI hS hrel hk w1 w2 kk1)
  | 49, _ => exact lv_tableIn (off := 1324) (tgt := 1363) K.1.1 K.1.2.1 dL_law_39 (by decide) (by decide) (by decide) (by decide) (la_49 hIX K hl hi hI hS hrel hk w1 w2 kk1)
  | 50, _ => exact lv_tableIn (off := 1349) (tgt := 1388) K.1.1 K.1.2.1 dL_law_39 (by decide) (by decide) (by decide) (by decide) (h50 hT K hl hi hI hS hrel hk hce hsl (fun H locs MC MM fo ls h0 h1 h2 h3 => kk H locs MC MM fo ls (k + 1) (Nat.le_refl _) h0 h1 h2 h3))
  | 51, _ => exact lv_tableOut (tgt := 1443) K.1.1 K.1.2.1 dL_law_39 (Or.inr (by decide)) (by decide) (W.widen (k := cells + 1) (n := slots + 6) (by omega) (by omega) (kk H locs MC MM fo ls k (Nat.le_succ _) hl hrel hI hS))
  | 52, _ => exact lv_tableOut (tgt := 1443) K.1.1 K.1.2.1 dL_law_39 (Or.inr (by decide)) (by decide) (W.widen (k := cells + 1) (n := slots + 6) (by omega) (by omega) (kk H locs MC MM fo ls k (Nat.le_succ _) hl hrel hI hS))
  | 53, _ => exact lv_tableOut (tgt := 1443) K.1.1 K.1.2.1 dL_law_39 (Or.inr (by decide)) (by decide) (W.widen (k := cells + 1) (n := slots + 6) (by omega) (by omega) (kk H locs MC MM fo ls k (Nat.le_succ _) hl hrel hI hS))
  | 54, _ => exact lv_tableOut (tgt := 1443) K.1.1 K.1.2.1 dL_law_39 (Or.inr (by decide)) (by decide) (W.widen (k := cells + 1) (n := slots + 6) (by omega) (by omega) (kk H locs MC MM fo ls k (Nat.le_succ _) hl hrel hI hS))
  | 55, _ => exact lv_tableOut (tgt := 1443) K.1.1 K.1.2.1 dL_law_39 (Or.inr (by decide)) (by decide) (W.widen (k := cells + 1) (n := slots + 6) (by omega) (by omega) (kk H locs MC MM fo ls k (Nat.le_succ _) hl hrel hI hS))
  | 56, _ => exact lv_tableOut (tgt := 1443) K.1.1 K.1.2.1 dL_law_39 (Or.inr (by decide)) (by decide) (W.widen (k := cells + 1) (n := slots + 6) (by omega) (by omega) (kk H locs MC MM fo ls k (Nat.le_succ _) hl hrel hI hS))
  | 57, _ => exact lv_tableOut (tgt := 1443) K.1.1 K.1.2.1 dL_law_39 (Or.inr (by decide)) (by decide) (W.widen (k := cells + 1) (n := slots + 6) (by omega) (by omega) (kk H locs MC MM fo ls k (Nat.le_succ _) hl hrel hI hS))
  | 58, _ => exact lv_tableOut (tgt := 1443) K.1.1 K.1.2.1 dL_law_39 (Or.inr (by decide)) (by decide) (W.widen (k := cells + 1) (n := slots + 6) (by omega) (by omega) (kk H locs MC MM fo ls k (Nat.le_succ _) hl hrel hI hS))
  | 59, _ => exact lv_tableOut (tgt := 1443) K.1.1 K.1.2.1 dL_law_39 (Or.inr (by decide)) (by decide) (W.widen (k := cells + 1) (n := slots + 6) (by omega) (by omega) (kk H locs MC MM fo ls k (Nat.le_succ _) hl hrel hI hS))
  | 60, _ => exact lv_tableOut (tgt := 1443) K.1.1 K.1.2.1 dL_law_39 (Or.inr (by decide)) (by decide) (W.widen (k := cells + 1) (n := slots + 6) (by omega) (by omega) (kk H locs MC MM fo ls k (Nat.le_succ _) hl hrel hI hS))
  | 61, _ => exact lv_tableOut (tgt := 1443) K.1.1 K.1.2.1 dL_law_39 (Or.inr (by decide)) (by decide) (W.widen (k := cells + 1) (n := slots + 6) (by omega) (by omega) (kk H locs MC MM fo ls k (Nat.le_succ _) hl hrel hI hS))
  | 62, _ => exact lv_tableOut (tgt := 1443) K.1.1 K.1.2.1 dL_law_39 (Or.inr (by decide)) (by decide) (W.widen (k := cells + 1) (n := slots + 6) (by omega) (by omega) (kk H locs MC MM fo ls k (Nat.le_succ _) hl hrel hI hS))
  | 63, _ => exact lv_tableOut (tgt := 1443) K.1.1 K.1.2.1 dL_law_39 (Or.inr (by decide)) (by decide) (W.widen (k := cells + 1) (n := slots + 6) (by omega) (by omega) (kk H locs MC MM fo ls k (Nat.le_succ _) hl hrel hI hS))
  | n + 64, hn => exact absurd hn (by omega)
/-- the loop: k calls are made; k2 counts them for the relation -/
theorem lw_loop (hIX : ti_IXok) (h6 : lw_Case Th 358) (h7 : lw_Case Th 426) (h50 : lw_Case Th 1388) (hT : Th l args s A) (K : lw_K p s m args c D ca adC adM adV ao A b L xs) (c0 s0 : Nat) (hc0 : c0 + 513 ≤ room_1.cells) (hs0 : s0 + 6 * 513 ≤ room_1.slots) (kE : ∀ (H : Heap) (locs : List Loc) (ls : Array Slot), va_S A s.heap H locs → W p l e room_1 s m args below meth c H locs (c0 + 513) (s0 + 6 * 513) Q (F0 m 1449 ls [])) :
    ∀ (n k k2 : Nat) (H : Heap) (locs : List Loc) (MC MM : TM) (fo : Nat → Int64) (ls : Array Slot), L ≤ 5 * k + n → 5 * k ≤ L → k2 ≤ k → lv_has ls 8 (lw_ls b adC adM ao (5 * k)) → LI D ca adC adM ao MC MM fo H → va_S A s.heap H locs → REL k2 MC MM → W p l e room_1 s m args below meth c H locs (c0 + k) (s0 + 6 * k) Q (F0 m 23 ls []) := by
  intro n
  induction n using Nat.strongRecOn with
  | ind n ih =>
    intro k k2 H locs MC MM fo ls hn hk hk2 hl hI hS hrel
    have hL : L ≤ 2560 := K.2.2.2.2.2.2.2
    have hx := K.1.1
    have hb := K.1.2.1
    have hX := K.2.2.2.2.1
    have hbl := K.2.2.2.2.2.1
    have hbA := K.2.2.2.2.2.2.1
    refine lv_iload hx hb dL_law_23 (lv_at hl 4 rfl) ?_
    refine lv_aload_n hx hb dL_law_25 rfl (lv_at hl 0 rfl) ?_
    refine va_slen hx hb hX hbl hbA hS dL_law_26 ?_
    refine lv_iconst (v := 5) hx hb dL_law_27 (by decide) ?_
    refine lv_isub hx hb dL_law_28 ?_
    refine lv_icmp_gt (tgt := 1449) hx hb dL_law_29 (by decide) (fun _ => ?_) (fun hng => ?_)
    · exact W.widen (k := c0 + 513) (n := s0 + 6 * 513) (by omega) (by omega) (kE H locs ls hS)
    · rw [lw_gt hL (by omega)] at hng
      have hi : 5 * k + 5 ≤ L := by omega
      refine lv_aload_n hx hb dL_law_32 rfl (lv_at hl 0 rfl) ?_
      refine lv_iload hx hb dL_law_33 (lv_at hl 4 rfl) ?_
      obtain ⟨g1, g2, g3⟩ := nI_cl (j := 5 * k) (n := L) (by omega) (by omega)
      refine va_sld hx hb hX hbl hbA hS (show vp_in (nI (5 * k)) L from fun z => z.elim (fun z => absurd g1 (Int32.not_le.mpr z)) (fun z => by omega)) dL_law_35 ?_
      refine lv_bipush (v := 63) hx hb dL_law_36 (by decide) ?_
      refine lv_iand hx hb dL_law_38 ?_
      obtain ⟨x, hx64, he⟩ := and63 (xs (nI (5 * k)).toNatClampNeg)
      rw [he]
      refine lw_sw hIX h6 h7 h50 hT K hl hi hI hS hrel (by omega) (by omega) (by omega) (fun H locs MC MM fo ls k3 hk3 hl hrel hI hS => ?_) x hx64
      refine lv_iinc (k := 4) (v := nI (5 * (k + 1))) (lv' := [(4, .int (nI (5 * (k + 1)))), (0, .ref b), (1, .ref (adC 0)), (2, .ref (adM 0)), (3, .ref ao)]) hx hb dL_law_1443 hl rfl ((Int32.ofNat_add (5 * k) 5).symm) (by decide) rfl (fun ls hl => ?_)
      have hl := lv_sub hl (l' := lw_ls b adC adM ao (5 * (k + 1))) [1, 2, 3, 4, 0] rfl
      refine lv_goto (tgt := 23) hx hb dL_law_1446 (by decide) ?_
      exact ih (n - 5) (by omega) (k + 1) k3 H locs MC MM fo ls (by omega) (by omega) (by omega) hl hI hS hrel
end LWF
