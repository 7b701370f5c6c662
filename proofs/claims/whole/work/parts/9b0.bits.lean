/-! ===== Long.bitCount, Long.numberOfTrailingZeros ===== -/
theorem dJ13_bitCount_95d88_0 : decode cJ13_bitCount_95d88 0 = .ok (.lload_n 0, 1) := by decide +kernel
theorem dJ13_bitCount_95d88_1 : decode cJ13_bitCount_95d88 1 = .ok (.lload_n 0, 1) := by decide +kernel
theorem dJ13_bitCount_95d88_2 : decode cJ13_bitCount_95d88 2 = .ok (.iconst 1, 1) := by decide +kernel
theorem dJ13_bitCount_95d88_3 : decode cJ13_bitCount_95d88 3 = .ok (.lushr, 1) := by decide +kernel
theorem dJ13_bitCount_95d88_4 : decode cJ13_bitCount_95d88 4 = .ok (.ldc2_w 314, 3) := by decide +kernel
theorem dJ13_bitCount_95d88_7 : decode cJ13_bitCount_95d88 7 = .ok (.land, 1) := by decide +kernel
theorem dJ13_bitCount_95d88_8 : decode cJ13_bitCount_95d88 8 = .ok (.lsub, 1) := by decide +kernel
theorem dJ13_bitCount_95d88_9 : decode cJ13_bitCount_95d88 9 = .ok (.lstore_n 0, 1) := by decide +kernel
theorem dJ13_bitCount_95d88_10 : decode cJ13_bitCount_95d88 10 = .ok (.lload_n 0, 1) := by decide +kernel
theorem dJ13_bitCount_95d88_11 : decode cJ13_bitCount_95d88 11 = .ok (.ldc2_w 316, 3) := by decide +kernel
theorem dJ13_bitCount_95d88_14 : decode cJ13_bitCount_95d88 14 = .ok (.land, 1) := by decide +kernel
theorem dJ13_bitCount_95d88_15 : decode cJ13_bitCount_95d88 15 = .ok (.lload_n 0, 1) := by decide +kernel
theorem dJ13_bitCount_95d88_16 : decode cJ13_bitCount_95d88 16 = .ok (.iconst 2, 1) := by decide +kernel
theorem dJ13_bitCount_95d88_17 : decode cJ13_bitCount_95d88 17 = .ok (.lushr, 1) := by decide +kernel
theorem dJ13_bitCount_95d88_18 : decode cJ13_bitCount_95d88 18 = .ok (.ldc2_w 316, 3) := by decide +kernel
theorem dJ13_bitCount_95d88_21 : decode cJ13_bitCount_95d88 21 = .ok (.land, 1) := by decide +kernel
theorem dJ13_bitCount_95d88_22 : decode cJ13_bitCount_95d88 22 = .ok (.ladd, 1) := by decide +kernel
theorem dJ13_bitCount_95d88_23 : decode cJ13_bitCount_95d88 23 = .ok (.lstore_n 0, 1) := by decide +kernel
theorem dJ13_bitCount_95d88_24 : decode cJ13_bitCount_95d88 24 = .ok (.lload_n 0, 1) := by decide +kernel
theorem dJ13_bitCount_95d88_25 : decode cJ13_bitCount_95d88 25 = .ok (.lload_n 0, 1) := by decide +kernel
theorem dJ13_bitCount_95d88_26 : decode cJ13_bitCount_95d88 26 = .ok (.iconst 4, 1) := by decide +kernel
theorem dJ13_bitCount_95d88_27 : decode cJ13_bitCount_95d88 27 = .ok (.lushr, 1) := by decide +kernel
theorem dJ13_bitCount_95d88_28 : decode cJ13_bitCount_95d88 28 = .ok (.ladd, 1) := by decide +kernel
theorem dJ13_bitCount_95d88_29 : decode cJ13_bitCount_95d88 29 = .ok (.ldc2_w 318, 3) := by decide +kernel
theorem dJ13_bitCount_95d88_32 : decode cJ13_bitCount_95d88 32 = .ok (.land, 1) := by decide +kernel
theorem dJ13_bitCount_95d88_33 : decode cJ13_bitCount_95d88 33 = .ok (.lstore_n 0, 1) := by decide +kernel
theorem dJ13_bitCount_95d88_34 : decode cJ13_bitCount_95d88 34 = .ok (.lload_n 0, 1) := by decide +kernel
theorem dJ13_bitCount_95d88_35 : decode cJ13_bitCount_95d88 35 = .ok (.lload_n 0, 1) := by decide +kernel
theorem dJ13_bitCount_95d88_36 : decode cJ13_bitCount_95d88 36 = .ok (.bipush 8, 2) := by decide +kernel
theorem dJ13_bitCount_95d88_38 : decode cJ13_bitCount_95d88 38 = .ok (.lushr, 1) := by decide +kernel
theorem dJ13_bitCount_95d88_39 : decode cJ13_bitCount_95d88 39 = .ok (.ladd, 1) := by decide +kernel
theorem dJ13_bitCount_95d88_40 : decode cJ13_bitCount_95d88 40 = .ok (.lstore_n 0, 1) := by decide +kernel
theorem dJ13_bitCount_95d88_41 : decode cJ13_bitCount_95d88 41 = .ok (.lload_n 0, 1) := by decide +kernel
theorem dJ13_bitCount_95d88_42 : decode cJ13_bitCount_95d88 42 = .ok (.lload_n 0, 1) := by decide +kernel
theorem dJ13_bitCount_95d88_43 : decode cJ13_bitCount_95d88 43 = .ok (.bipush 16, 2) := by decide +kernel
theorem dJ13_bitCount_95d88_45 : decode cJ13_bitCount_95d88 45 = .ok (.lushr, 1) := by decide +kernel
theorem dJ13_bitCount_95d88_46 : decode cJ13_bitCount_95d88 46 = .ok (.ladd, 1) := by decide +kernel
theorem dJ13_bitCount_95d88_47 : decode cJ13_bitCount_95d88 47 = .ok (.lstore_n 0, 1) := by decide +kernel
theorem dJ13_bitCount_95d88_48 : decode cJ13_bitCount_95d88 48 = .ok (.lload_n 0, 1) := by decide +kernel
theorem dJ13_bitCount_95d88_49 : decode cJ13_bitCount_95d88 49 = .ok (.lload_n 0, 1) := by decide +kernel
theorem dJ13_bitCount_95d88_50 : decode cJ13_bitCount_95d88 50 = .ok (.bipush 32, 2) := by decide +kernel
theorem dJ13_bitCount_95d88_52 : decode cJ13_bitCount_95d88 52 = .ok (.lushr, 1) := by decide +kernel
theorem dJ13_bitCount_95d88_53 : decode cJ13_bitCount_95d88 53 = .ok (.ladd, 1) := by decide +kernel
theorem dJ13_bitCount_95d88_54 : decode cJ13_bitCount_95d88 54 = .ok (.lstore_n 0, 1) := by decide +kernel
theorem dJ13_bitCount_95d88_55 : decode cJ13_bitCount_95d88 55 = .ok (.lload_n 0, 1) := by decide +kernel
theorem dJ13_bitCount_95d88_56 : decode cJ13_bitCount_95d88 56 = .ok (.l2i, 1) := by decide +kernel
theorem dJ13_bitCount_95d88_57 : decode cJ13_bitCount_95d88 57 = .ok (.bipush 127, 2) := by decide +kernel
theorem dJ13_bitCount_95d88_59 : decode cJ13_bitCount_95d88 59 = .ok (.iand, 1) := by decide +kernel
theorem dJ13_bitCount_95d88_60 : decode cJ13_bitCount_95d88 60 = .ok (.ireturn, 1) := by decide +kernel
theorem dJ6_numberOfTrailingZeros_0f7a4_0 : decode cJ6_numberOfTrailingZeros_0f7a4 0 = .ok (.iload_n 0, 1) := by decide +kernel
theorem dJ6_numberOfTrailingZeros_0f7a4_1 : decode cJ6_numberOfTrailingZeros_0f7a4 1 = .ok (.iconst (-1), 1) := by decide +kernel
theorem dJ6_numberOfTrailingZeros_0f7a4_2 : decode cJ6_numberOfTrailingZeros_0f7a4 2 = .ok (.ixor, 1) := by decide +kernel
theorem dJ6_numberOfTrailingZeros_0f7a4_3 : decode cJ6_numberOfTrailingZeros_0f7a4 3 = .ok (.iload_n 0, 1) := by decide +kernel
theorem dJ6_numberOfTrailingZeros_0f7a4_4 : decode cJ6_numberOfTrailingZeros_0f7a4 4 = .ok (.iconst 1, 1) := by decide +kernel
theorem dJ6_numberOfTrailingZeros_0f7a4_5 : decode cJ6_numberOfTrailingZeros_0f7a4 5 = .ok (.isub, 1) := by decide +kernel
theorem dJ6_numberOfTrailingZeros_0f7a4_6 : decode cJ6_numberOfTrailingZeros_0f7a4 6 = .ok (.iand, 1) := by decide +kernel
theorem dJ6_numberOfTrailingZeros_0f7a4_7 : decode cJ6_numberOfTrailingZeros_0f7a4 7 = .ok (.istore_n 0, 1) := by decide +kernel
theorem dJ6_numberOfTrailingZeros_0f7a4_8 : decode cJ6_numberOfTrailingZeros_0f7a4 8 = .ok (.iload_n 0, 1) := by decide +kernel
theorem dJ6_numberOfTrailingZeros_0f7a4_9 : decode cJ6_numberOfTrailingZeros_0f7a4 9 = .ok (.ifCond .gt 8, 3) := by decide +kernel
theorem dJ6_numberOfTrailingZeros_0f7a4_12 : decode cJ6_numberOfTrailingZeros_0f7a4 12 = .ok (.iload_n 0, 1) := by decide +kernel
theorem dJ6_numberOfTrailingZeros_0f7a4_13 : decode cJ6_numberOfTrailingZeros_0f7a4 13 = .ok (.bipush 32, 2) := by decide +kernel
theorem dJ6_numberOfTrailingZeros_0f7a4_15 : decode cJ6_numberOfTrailingZeros_0f7a4 15 = .ok (.iand, 1) := by decide +kernel
theorem dJ6_numberOfTrailingZeros_0f7a4_16 : decode cJ6_numberOfTrailingZeros_0f7a4 16 = .ok (.ireturn, 1) := by decide +kernel
theorem dJ6_numberOfTrailingZeros_0f7a4_17 : decode cJ6_numberOfTrailingZeros_0f7a4 17 = .ok (.iconst 1, 1) := by decide +kernel
theorem dJ6_numberOfTrailingZeros_0f7a4_18 : decode cJ6_numberOfTrailingZeros_0f7a4 18 = .ok (.istore_n 1, 1) := by decide +kernel
theorem dJ6_numberOfTrailingZeros_0f7a4_19 : decode cJ6_numberOfTrailingZeros_0f7a4 19 = .ok (.iload_n 0, 1) := by decide +kernel
theorem dJ6_numberOfTrailingZeros_0f7a4_20 : decode cJ6_numberOfTrailingZeros_0f7a4 20 = .ok (.ldc_w 264, 3) := by decide +kernel
theorem dJ6_numberOfTrailingZeros_0f7a4_23 : decode cJ6_numberOfTrailingZeros_0f7a4 23 = .ok (.if_icmp .le 11, 3) := by decide +kernel
theorem dJ6_numberOfTrailingZeros_0f7a4_26 : decode cJ6_numberOfTrailingZeros_0f7a4 26 = .ok (.iinc 1 16, 3) := by decide +kernel
theorem dJ6_numberOfTrailingZeros_0f7a4_29 : decode cJ6_numberOfTrailingZeros_0f7a4 29 = .ok (.iload_n 0, 1) := by decide +kernel
theorem dJ6_numberOfTrailingZeros_0f7a4_30 : decode cJ6_numberOfTrailingZeros_0f7a4 30 = .ok (.bipush 16, 2) := by decide +kernel
theorem dJ6_numberOfTrailingZeros_0f7a4_32 : decode cJ6_numberOfTrailingZeros_0f7a4 32 = .ok (.iushr, 1) := by decide +kernel
theorem dJ6_numberOfTrailingZeros_0f7a4_33 : decode cJ6_numberOfTrailingZeros_0f7a4 33 = .ok (.istore_n 0, 1) := by decide +kernel
theorem dJ6_numberOfTrailingZeros_0f7a4_34 : decode cJ6_numberOfTrailingZeros_0f7a4 34 = .ok (.iload_n 0, 1) := by decide +kernel
theorem dJ6_numberOfTrailingZeros_0f7a4_35 : decode cJ6_numberOfTrailingZeros_0f7a4 35 = .ok (.sipush 256, 3) := by decide +kernel
theorem dJ6_numberOfTrailingZeros_0f7a4_38 : decode cJ6_numberOfTrailingZeros_0f7a4 38 = .ok (.if_icmp .le 11, 3) := by decide +kernel
theorem dJ6_numberOfTrailingZeros_0f7a4_41 : decode cJ6_numberOfTrailingZeros_0f7a4 41 = .ok (.iinc 1 8, 3) := by decide +kernel
theorem dJ6_numberOfTrailingZeros_0f7a4_44 : decode cJ6_numberOfTrailingZeros_0f7a4 44 = .ok (.iload_n 0, 1) := by decide +kernel
theorem dJ6_numberOfTrailingZeros_0f7a4_45 : decode cJ6_numberOfTrailingZeros_0f7a4 45 = .ok (.bipush 8, 2) := by decide +kernel
theorem dJ6_numberOfTrailingZeros_0f7a4_47 : decode cJ6_numberOfTrailingZeros_0f7a4 47 = .ok (.iushr, 1) := by decide +kernel
theorem dJ6_numberOfTrailingZeros_0f7a4_48 : decode cJ6_numberOfTrailingZeros_0f7a4 48 = .ok (.istore_n 0, 1) := by decide +kernel
theorem dJ6_numberOfTrailingZeros_0f7a4_49 : decode cJ6_numberOfTrailingZeros_0f7a4 49 = .ok (.iload_n 0, 1) := by decide +kernel
theorem dJ6_numberOfTrailingZeros_0f7a4_50 : decode cJ6_numberOfTrailingZeros_0f7a4 50 = .ok (.bipush 16, 2) := by decide +kernel
theorem dJ6_numberOfTrailingZeros_0f7a4_52 : decode cJ6_numberOfTrailingZeros_0f7a4 52 = .ok (.if_icmp .le 10, 3) := by decide +kernel
theorem dJ6_numberOfTrailingZeros_0f7a4_55 : decode cJ6_numberOfTrailingZeros_0f7a4 55 = .ok (.iinc 1 4, 3) := by decide +kernel
theorem dJ6_numberOfTrailingZeros_0f7a4_58 : decode cJ6_numberOfTrailingZeros_0f7a4 58 = .ok (.iload_n 0, 1) := by decide +kernel
theorem dJ6_numberOfTrailingZeros_0f7a4_59 : decode cJ6_numberOfTrailingZeros_0f7a4 59 = .ok (.iconst 4, 1) := by decide +kernel
theorem dJ6_numberOfTrailingZeros_0f7a4_60 : decode cJ6_numberOfTrailingZeros_0f7a4 60 = .ok (.iushr, 1) := by decide +kernel
theorem dJ6_numberOfTrailingZeros_0f7a4_61 : decode cJ6_numberOfTrailingZeros_0f7a4 61 = .ok (.istore_n 0, 1) := by decide +kernel
theorem dJ6_numberOfTrailingZeros_0f7a4_62 : decode cJ6_numberOfTrailingZeros_0f7a4 62 = .ok (.iload_n 0, 1) := by decide +kernel
theorem dJ6_numberOfTrailingZeros_0f7a4_63 : decode cJ6_numberOfTrailingZeros_0f7a4 63 = .ok (.iconst 4, 1) := by decide +kernel
theorem dJ6_numberOfTrailingZeros_0f7a4_64 : decode cJ6_numberOfTrailingZeros_0f7a4 64 = .ok (.if_icmp .le 10, 3) := by decide +kernel
theorem dJ6_numberOfTrailingZeros_0f7a4_67 : decode cJ6_numberOfTrailingZeros_0f7a4 67 = .ok (.iinc 1 2, 3) := by decide +kernel
theorem dJ6_numberOfTrailingZeros_0f7a4_70 : decode cJ6_numberOfTrailingZeros_0f7a4 70 = .ok (.iload_n 0, 1) := by decide +kernel
theorem dJ6_numberOfTrailingZeros_0f7a4_71 : decode cJ6_numberOfTrailingZeros_0f7a4 71 = .ok (.iconst 2, 1) := by decide +kernel
theorem dJ6_numberOfTrailingZeros_0f7a4_72 : decode cJ6_numberOfTrailingZeros_0f7a4 72 = .ok (.iushr, 1) := by decide +kernel
theorem dJ6_numberOfTrailingZeros_0f7a4_73 : decode cJ6_numberOfTrailingZeros_0f7a4 73 = .ok (.istore_n 0, 1) := by decide +kernel
theorem dJ6_numberOfTrailingZeros_0f7a4_74 : decode cJ6_numberOfTrailingZeros_0f7a4 74 = .ok (.iload_n 1, 1) := by decide +kernel
theorem dJ6_numberOfTrailingZeros_0f7a4_75 : decode cJ6_numberOfTrailingZeros_0f7a4 75 = .ok (.iload_n 0, 1) := by decide +kernel
theorem dJ6_numberOfTrailingZeros_0f7a4_76 : decode cJ6_numberOfTrailingZeros_0f7a4 76 = .ok (.iconst 1, 1) := by decide +kernel
theorem dJ6_numberOfTrailingZeros_0f7a4_77 : decode cJ6_numberOfTrailingZeros_0f7a4 77 = .ok (.iushr, 1) := by decide +kernel
theorem dJ6_numberOfTrailingZeros_0f7a4_78 : decode cJ6_numberOfTrailingZeros_0f7a4 78 = .ok (.iadd, 1) := by decide +kernel
theorem dJ6_numberOfTrailingZeros_0f7a4_79 : decode cJ6_numberOfTrailingZeros_0f7a4 79 = .ok (.ireturn, 1) := by decide +kernel
theorem dJ13_numberOfTrailingZeros_95d88_0 : decode cJ13_numberOfTrailingZeros_95d88 0 = .ok (.lload_n 0, 1) := by decide +kernel
theorem dJ13_numberOfTrailingZeros_95d88_1 : decode cJ13_numberOfTrailingZeros_95d88 1 = .ok (.l2i, 1) := by decide +kernel
theorem dJ13_numberOfTrailingZeros_95d88_2 : decode cJ13_numberOfTrailingZeros_95d88 2 = .ok (.istore_n 2, 1) := by decide +kernel
theorem dJ13_numberOfTrailingZeros_95d88_3 : decode cJ13_numberOfTrailingZeros_95d88 3 = .ok (.iload_n 2, 1) := by decide +kernel
theorem dJ13_numberOfTrailingZeros_95d88_4 : decode cJ13_numberOfTrailingZeros_95d88 4 = .ok (.ifCond .ne 17, 3) := by decide +kernel
theorem dJ13_numberOfTrailingZeros_95d88_7 : decode cJ13_numberOfTrailingZeros_95d88 7 = .ok (.bipush 32, 2) := by decide +kernel
theorem dJ13_numberOfTrailingZeros_95d88_9 : decode cJ13_numberOfTrailingZeros_95d88 9 = .ok (.lload_n 0, 1) := by decide +kernel
theorem dJ13_numberOfTrailingZeros_95d88_10 : decode cJ13_numberOfTrailingZeros_95d88 10 = .ok (.bipush 32, 2) := by decide +kernel
theorem dJ13_numberOfTrailingZeros_95d88_12 : decode cJ13_numberOfTrailingZeros_95d88 12 = .ok (.lushr, 1) := by decide +kernel
theorem dJ13_numberOfTrailingZeros_95d88_13 : decode cJ13_numberOfTrailingZeros_95d88 13 = .ok (.l2i, 1) := by decide +kernel
theorem dJ13_numberOfTrailingZeros_95d88_14 : decode cJ13_numberOfTrailingZeros_95d88 14 = .ok (.invokestatic 311, 3) := by decide +kernel
theorem dJ13_numberOfTrailingZeros_95d88_17 : decode cJ13_numberOfTrailingZeros_95d88 17 = .ok (.iadd, 1) := by decide +kernel
theorem dJ13_numberOfTrailingZeros_95d88_18 : decode cJ13_numberOfTrailingZeros_95d88 18 = .ok (.goto 7, 3) := by decide +kernel
theorem dJ13_numberOfTrailingZeros_95d88_21 : decode cJ13_numberOfTrailingZeros_95d88 21 = .ok (.iload_n 2, 1) := by decide +kernel
theorem dJ13_numberOfTrailingZeros_95d88_22 : decode cJ13_numberOfTrailingZeros_95d88 22 = .ok (.invokestatic 311, 3) := by decide +kernel
theorem dJ13_numberOfTrailingZeros_95d88_25 : decode cJ13_numberOfTrailingZeros_95d88 25 = .ok (.ireturn, 1) := by decide +kernel
def xlushr (x y : Int) : Int := ((Int64.ofInt x).toUInt64 >>> ((Int32.ofInt y).toInt64.toUInt64 &&& Int64.toUInt64 63)).toInt64.toInt
def xiushr (x y : Int) : Int := ((Int32.ofInt x).toUInt32 >>> ((Int32.ofInt y).toUInt32 &&& Int32.toUInt32 31)).toInt32.toInt
section XBITS
variable {Γ : xG} {lay : List xS} {own : String} {cc : ByteArray} {nL d pc : Nat} {L : List (Nat × xV)} {st : List xV} {m : xM}
theorem x_lushr (C : xC Γ lay own cc nL d) {x y : Int} (hd : decode cc pc = .ok (.lushr, 1)) (h : xW Γ lay nL (pc + 1) L (.inr (.inl (xlushr x y)) :: st) m) : xW Γ lay nL pc L (.inl y :: .inr (.inl x) :: st) m := by
  obtain ⟨⟨p, l, e, R, s, m0, args, below, meth, c⟩, ⟨A, ad, dC, dI, dA⟩, cells, slots, Q⟩ := Γ
  obtain ⟨hx, hb, -⟩ := C
  intro H locs ls hP hS hv
  have h1 := h H locs ls hP hS hv
  refine lv_lushr hx hb hd rfl ?_
  have e : Int64.ofInt (xlushr x y) = ((Int64.ofInt x).toUInt64 >>> ((Int32.ofInt y).toInt64.toUInt64 &&& Int64.toUInt64 63)).toInt64 := Int64.ofInt_toInt _
  rw [← e]; exact h1
theorem x_iushr (C : xC Γ lay own cc nL d) {x y : Int} (hd : decode cc pc = .ok (.iushr, 1)) (h : xW Γ lay nL (pc + 1) L (.inl (xiushr x y) :: st) m) : xW Γ lay nL pc L (.inl y :: .inl x :: st) m := by
  obtain ⟨⟨p, l, e, R, s, m0, args, below, meth, c⟩, ⟨A, ad, dC, dI, dA⟩, cells, slots, Q⟩ := Γ
  obtain ⟨hx, hb, -⟩ := C
  intro H locs ls hP hS hv
  have h1 := h H locs ls hP hS hv
  refine lv_iushr hx hb hd rfl ?_
  have e : Int32.ofInt (xiushr x y) = ((Int32.ofInt x).toUInt32 >>> ((Int32.ofInt y).toUInt32 &&& Int32.toUInt32 31)).toInt32 := Int32.ofInt_toInt _
  rw [← e]; exact h1
end XBITS
def fb_1 (x : Int) : Int := x - xland (xlushr x 1) 6148914691236517205
def fb_2 (x : Int) : Int := xland x 3689348814741910323 + xland (xlushr x 2) 3689348814741910323
def fb_3 (x : Int) : Int := xland (x + xlushr x 4) 1085102592571150095
def fb_4 (x : Int) : Int := x + xlushr x 8
def fb_5 (x : Int) : Int := x + xlushr x 16
def fb_6 (x : Int) : Int := x + xlushr x 32
def f_bit (x : Int) : Int := xiand ((fb_6 (fb_5 (fb_4 (fb_3 (fb_2 (fb_1 x))))))) 127
theorem c_J13_bit (l : Launch) (lay : List xS) (m : xM) (x : Int) : xMet l yJ13_bitCount_95d88 cJ13_bitCount_95d88 2 (some .int) 0 lay [.inr (.inl x)] m (some (.inl (f_bit x))) m :=
  xMet_i (by decide +kernel) (Nat.le_of_ble_eq_true rfl) (fun Γ C hR _ => by
    refine x_lload_n C dJ13_bitCount_95d88_0 rfl ?_
    refine x_lload_n C dJ13_bitCount_95d88_1 rfl ?_
    refine x_iconst C dJ13_bitCount_95d88_2 ?_
    refine x_lushr C dJ13_bitCount_95d88_3 ?_
    refine x_ldc2 (v := 6148914691236517205) C 6148914691236517205 dJ13_bitCount_95d88_4 (by decide +kernel) (by decide) ?_
    refine x_land C dJ13_bitCount_95d88_7 ?_
    refine x_lsub C dJ13_bitCount_95d88_8 ?_
    refine x_lstore_n (x := fb_1 x) C dJ13_bitCount_95d88_9 (by decide) ?_
    refine x_lload_n C dJ13_bitCount_95d88_10 rfl ?_
    refine x_ldc2 (v := 3689348814741910323) C 3689348814741910323 dJ13_bitCount_95d88_11 (by decide +kernel) (by decide) ?_
    refine x_land C dJ13_bitCount_95d88_14 ?_
    refine x_lload_n C dJ13_bitCount_95d88_15 rfl ?_
    refine x_iconst C dJ13_bitCount_95d88_16 ?_
    refine x_lushr C dJ13_bitCount_95d88_17 ?_
    refine x_ldc2 (v := 3689348814741910323) C 3689348814741910323 dJ13_bitCount_95d88_18 (by decide +kernel) (by decide) ?_
    refine x_land C dJ13_bitCount_95d88_21 ?_
    refine x_ladd C dJ13_bitCount_95d88_22 ?_
    refine x_lstore_n (x := fb_2 (fb_1 x)) C dJ13_bitCount_95d88_23 (by decide) ?_
    refine x_lload_n C dJ13_bitCount_95d88_24 rfl ?_
    refine x_lload_n C dJ13_bitCount_95d88_25 rfl ?_
    refine x_iconst C dJ13_bitCount_95d88_26 ?_
    refine x_lushr C dJ13_bitCount_95d88_27 ?_
    refine x_ladd C dJ13_bitCount_95d88_28 ?_
    refine x_ldc2 (v := 1085102592571150095) C 1085102592571150095 dJ13_bitCount_95d88_29 (by decide +kernel) (by decide) ?_
    refine x_land C dJ13_bitCount_95d88_32 ?_
    refine x_lstore_n (x := fb_3 (fb_2 (fb_1 x))) C dJ13_bitCount_95d88_33 (by decide) ?_
    refine x_lload_n C dJ13_bitCount_95d88_34 rfl ?_
    refine x_lload_n C dJ13_bitCount_95d88_35 rfl ?_
    refine x_bipush C dJ13_bitCount_95d88_36 (by decide) ?_
    refine x_lushr C dJ13_bitCount_95d88_38 ?_
    refine x_ladd C dJ13_bitCount_95d88_39 ?_
    refine x_lstore_n (x := fb_4 (fb_3 (fb_2 (fb_1 x)))) C dJ13_bitCount_95d88_40 (by decide) ?_
    refine x_lload_n C dJ13_bitCount_95d88_41 rfl ?_
    refine x_lload_n C dJ13_bitCount_95d88_42 rfl ?_
    refine x_bipush C dJ13_bitCount_95d88_43 (by decide) ?_
    refine x_lushr C dJ13_bitCount_95d88_45 ?_
    refine x_ladd C dJ13_bitCount_95d88_46 ?_
    refine x_lstore_n (x := fb_5 (fb_4 (fb_3 (fb_2 (fb_1 x))))) C dJ13_bitCount_95d88_47 (by decide) ?_
    refine x_lload_n C dJ13_bitCount_95d88_48 rfl ?_
    refine x_lload_n C dJ13_bitCount_95d88_49 rfl ?_
    refine x_bipush C dJ13_bitCount_95d88_50 (by decide) ?_
    refine x_lushr C dJ13_bitCount_95d88_52 ?_
    refine x_ladd C dJ13_bitCount_95d88_53 ?_
    refine x_lstore_n (x := fb_6 (fb_5 (fb_4 (fb_3 (fb_2 (fb_1 x)))))) C dJ13_bitCount_95d88_54 (by decide) ?_
    refine x_lload_n C dJ13_bitCount_95d88_55 rfl ?_
    refine x_l2i C dJ13_bitCount_95d88_56 ?_
    refine x_bipush C dJ13_bitCount_95d88_57 (by decide) ?_
    refine x_iand C dJ13_bitCount_95d88_59 ?_
    exact x_ireturn hR dJ13_bitCount_95d88_60 rfl)
def fz_1 (x : Int) : Int := xiand (xixor x (-1)) (x - 1)
/-- one halving: where the number is past b it goes down by k bits and k is counted -/
def fz_s (b k : Int) (q : Int × Int) : Int × Int := if xw b < xw q.1 then (xiushr q.1 k, q.2 + k) else q
def fz_e (q : Int × Int) : Int := q.2 + xiushr q.1 1
def f_ntz (x : Int) : Int := if 0 < xw (fz_1 x) then fz_e (fz_s 4 2 (fz_s 16 4 (fz_s 256 8 (fz_s 65536 16 (fz_1 x, 1))))) else xiand (fz_1 x) 32
def f_lntz (x : Int) : Int := if xw x = 0 then 32 + f_ntz ((xlushr x 32)) else f_ntz x
theorem z_74 {Γ : xG} {lay : List xS} {d : Nat} (C : xC Γ lay RJ6 cJ6_numberOfTrailingZeros_0f7a4 2 d) {r : Int} {m : xM} (hR : xRi Γ lay cJ6_numberOfTrailingZeros_0f7a4 r m) (x k : Int) (h : fz_e (x, k) = r) : xW Γ lay 2 74 [(0, .inl x), (1, .inl k)] [] m := by
  refine x_iload_n C dJ6_numberOfTrailingZeros_0f7a4_74 rfl ?_
  refine x_iload_n C dJ6_numberOfTrailingZeros_0f7a4_75 rfl ?_
  refine x_iconst C dJ6_numberOfTrailingZeros_0f7a4_76 ?_
  refine x_iushr C dJ6_numberOfTrailingZeros_0f7a4_77 ?_
  refine x_iadd C dJ6_numberOfTrailingZeros_0f7a4_78 ?_
  exact x_ireturn hR dJ6_numberOfTrailingZeros_0f7a4_79 (by rw [← h]; rfl)
theorem z_62 {Γ : xG} {lay : List xS} {d : Nat} (C : xC Γ lay RJ6 cJ6_numberOfTrailingZeros_0f7a4 2 d) {r : Int} {m : xM} (hR : xRi Γ lay cJ6_numberOfTrailingZeros_0f7a4 r m) (x k : Int) (h : fz_e (fz_s 4 2 (x, k)) = r) : xW Γ lay 2 62 [(0, .inl x), (1, .inl k)] [] m := by
  refine x_iload_n C dJ6_numberOfTrailingZeros_0f7a4_62 rfl ?_
  refine x_iconst C dJ6_numberOfTrailingZeros_0f7a4_63 ?_
  by_cases hc : xw 4 < xw x
  · refine x_icmp_leN C 74 dJ6_numberOfTrailingZeros_0f7a4_64 (by decide) hc ?_
    refine x_iinc C dJ6_numberOfTrailingZeros_0f7a4_67 (by decide) (x := k) rfl ?_
    refine x_iload_n (x := x) C dJ6_numberOfTrailingZeros_0f7a4_70 rfl ?_
    refine x_iconst C dJ6_numberOfTrailingZeros_0f7a4_71 ?_
    refine x_iushr C dJ6_numberOfTrailingZeros_0f7a4_72 ?_
    refine x_istore_n C dJ6_numberOfTrailingZeros_0f7a4_73 (by decide) ?_
    refine x_loc [(0, .inl (xiushr x 2)), (1, .inl (k + 2))] ⟨rfl, rfl, trivial⟩ ?_
    rw [show fz_s 4 2 (x, k) = (xiushr x 2, k + 2) from if_pos hc] at h
    exact z_74 C hR _ _ h
  · refine x_icmp_leT C 74 dJ6_numberOfTrailingZeros_0f7a4_64 (by decide) hc ?_
    rw [show fz_s 4 2 (x, k) = (x, k) from if_neg hc] at h
    exact z_74 C hR _ _ h
theorem z_49 {Γ : xG} {lay : List xS} {d : Nat} (C : xC Γ lay RJ6 cJ6_numberOfTrailingZeros_0f7a4 2 d) {r : Int} {m : xM} (hR : xRi Γ lay cJ6_numberOfTrailingZeros_0f7a4 r m) (x k : Int) (h : fz_e (fz_s 4 2 (fz_s 16 4 (x, k))) = r) : xW Γ lay 2 49 [(0, .inl x), (1, .inl k)] [] m := by
  refine x_iload_n C dJ6_numberOfTrailingZeros_0f7a4_49 rfl ?_
  refine x_bipush C dJ6_numberOfTrailingZeros_0f7a4_50 (by decide) ?_
  by_cases hc : xw 16 < xw x
  · refine x_icmp_leN C 62 dJ6_numberOfTrailingZeros_0f7a4_52 (by decide) hc ?_
    refine x_iinc C dJ6_numberOfTrailingZeros_0f7a4_55 (by decide) (x := k) rfl ?_
    refine x_iload_n (x := x) C dJ6_numberOfTrailingZeros_0f7a4_58 rfl ?_
    refine x_iconst C dJ6_numberOfTrailingZeros_0f7a4_59 ?_
    refine x_iushr C dJ6_numberOfTrailingZeros_0f7a4_60 ?_
    refine x_istore_n C dJ6_numberOfTrailingZeros_0f7a4_61 (by decide) ?_
    refine x_loc [(0, .inl (xiushr x 4)), (1, .inl (k + 4))] ⟨rfl, rfl, trivial⟩ ?_
    rw [show fz_s 16 4 (x, k) = (xiushr x 4, k + 4) from if_pos hc] at h
    exact z_62 C hR _ _ h
  · refine x_icmp_leT C 62 dJ6_numberOfTrailingZeros_0f7a4_52 (by decide) hc ?_
    rw [show fz_s 16 4 (x, k) = (x, k) from if_neg hc] at h
    exact z_62 C hR _ _ h
theorem z_34 {Γ : xG} {lay : List xS} {d : Nat} (C : xC Γ lay RJ6 cJ6_numberOfTrailingZeros_0f7a4 2 d) {r : Int} {m : xM} (hR : xRi Γ lay cJ6_numberOfTrailingZeros_0f7a4 r m) (x k : Int) (h : fz_e (fz_s 4 2 (fz_s 16 4 (fz_s 256 8 (x, k)))) = r) : xW Γ lay 2 34 [(0, .inl x), (1, .inl k)] [] m := by
  refine x_iload_n C dJ6_numberOfTrailingZeros_0f7a4_34 rfl ?_
  refine x_sipush C dJ6_numberOfTrailingZeros_0f7a4_35 (by decide) ?_
  by_cases hc : xw 256 < xw x
  · refine x_icmp_leN C 49 dJ6_numberOfTrailingZeros_0f7a4_38 (by decide) hc ?_
    refine x_iinc C dJ6_numberOfTrailingZeros_0f7a4_41 (by decide) (x := k) rfl ?_
    refine x_iload_n (x := x) C dJ6_numberOfTrailingZeros_0f7a4_44 rfl ?_
    refine x_bipush C dJ6_numberOfTrailingZeros_0f7a4_45 (by decide) ?_
    refine x_iushr C dJ6_numberOfTrailingZeros_0f7a4_47 ?_
    refine x_istore_n C dJ6_numberOfTrailingZeros_0f7a4_48 (by decide) ?_
    refine x_loc [(0, .inl (xiushr x 8)), (1, .inl (k + 8))] ⟨rfl, rfl, trivial⟩ ?_
    rw [show fz_s 256 8 (x, k) = (xiushr x 8, k + 8) from if_pos hc] at h
    exact z_49 C hR _ _ h
  · refine x_icmp_leT C 49 dJ6_numberOfTrailingZeros_0f7a4_38 (by decide) hc ?_
    rw [show fz_s 256 8 (x, k) = (x, k) from if_neg hc] at h
    exact z_49 C hR _ _ h
theorem z_19 {Γ : xG} {lay : List xS} {d : Nat} (C : xC Γ lay RJ6 cJ6_numberOfTrailingZeros_0f7a4 2 d) {r : Int} {m : xM} (hR : xRi Γ lay cJ6_numberOfTrailingZeros_0f7a4 r m) (x k : Int) (h : fz_e (fz_s 4 2 (fz_s 16 4 (fz_s 256 8 (fz_s 65536 16 (x, k))))) = r) : xW Γ lay 2 19 [(0, .inl x), (1, .inl k)] [] m := by
  refine x_iload_n C dJ6_numberOfTrailingZeros_0f7a4_19 rfl ?_
  refine x_ldc_w (v := 65536) C 65536 dJ6_numberOfTrailingZeros_0f7a4_20 (by decide +kernel) (by decide) ?_
  by_cases hc : xw 65536 < xw x
  · refine x_icmp_leN C 34 dJ6_numberOfTrailingZeros_0f7a4_23 (by decide) hc ?_
    refine x_iinc C dJ6_numberOfTrailingZeros_0f7a4_26 (by decide) (x := k) rfl ?_
    refine x_iload_n (x := x) C dJ6_numberOfTrailingZeros_0f7a4_29 rfl ?_
    refine x_bipush C dJ6_numberOfTrailingZeros_0f7a4_30 (by decide) ?_
    refine x_iushr C dJ6_numberOfTrailingZeros_0f7a4_32 ?_
    refine x_istore_n C dJ6_numberOfTrailingZeros_0f7a4_33 (by decide) ?_
    refine x_loc [(0, .inl (xiushr x 16)), (1, .inl (k + 16))] ⟨rfl, rfl, trivial⟩ ?_
    rw [show fz_s 65536 16 (x, k) = (xiushr x 16, k + 16) from if_pos hc] at h
    exact z_34 C hR _ _ h
  · refine x_icmp_leT C 34 dJ6_numberOfTrailingZeros_0f7a4_23 (by decide) hc ?_
    rw [show fz_s 65536 16 (x, k) = (x, k) from if_neg hc] at h
    exact z_34 C hR _ _ h
theorem c_J6_ntz (l : Launch) (lay : List xS) (m : xM) (x : Int) : xMet l yJ6_numberOfTrailingZeros_0f7a4 cJ6_numberOfTrailingZeros_0f7a4 2 (some .int) 0 lay [.inl x] m (some (.inl (f_ntz x))) m :=
  xMet_i (by decide +kernel) (Nat.le_of_ble_eq_true rfl) (fun Γ C hR _ => by
    refine x_iload_n (x := x) C dJ6_numberOfTrailingZeros_0f7a4_0 rfl ?_
    refine x_iconst C dJ6_numberOfTrailingZeros_0f7a4_1 ?_
    refine x_ixor C dJ6_numberOfTrailingZeros_0f7a4_2 ?_
    refine x_iload_n (x := x) C dJ6_numberOfTrailingZeros_0f7a4_3 rfl ?_
    refine x_iconst C dJ6_numberOfTrailingZeros_0f7a4_4 ?_
    refine x_isub C dJ6_numberOfTrailingZeros_0f7a4_5 ?_
    refine x_iand C dJ6_numberOfTrailingZeros_0f7a4_6 ?_
    refine x_istore_n (x := fz_1 x) C dJ6_numberOfTrailingZeros_0f7a4_7 (by decide) ?_
    refine x_iload_n (x := fz_1 x) C dJ6_numberOfTrailingZeros_0f7a4_8 rfl ?_
    by_cases hc : 0 < xw (fz_1 x)
    · refine x_if_gtT C 17 dJ6_numberOfTrailingZeros_0f7a4_9 (by decide) hc ?_
      refine x_iconst C dJ6_numberOfTrailingZeros_0f7a4_17 ?_
      refine x_istore_n C dJ6_numberOfTrailingZeros_0f7a4_18 (by decide) ?_
      refine x_loc [(0, .inl (fz_1 x)), (1, .inl 1)] ⟨rfl, rfl, trivial⟩ ?_
      exact z_19 C hR _ _ (by unfold f_ntz; rw [if_pos hc])
    · refine x_if_gtN C 17 dJ6_numberOfTrailingZeros_0f7a4_9 (by decide) hc ?_
      refine x_iload_n (x := fz_1 x) C dJ6_numberOfTrailingZeros_0f7a4_12 rfl ?_
      refine x_bipush C dJ6_numberOfTrailingZeros_0f7a4_13 (by decide) ?_
      refine x_iand C dJ6_numberOfTrailingZeros_0f7a4_15 ?_
      exact x_ireturn hR dJ6_numberOfTrailingZeros_0f7a4_16 (by unfold f_ntz; rw [if_neg hc]))
theorem xyJ6_ntz : xY yJ6_numberOfTrailingZeros_0f7a4 cJ6_numberOfTrailingZeros_0f7a4 2 (some .int) 1 := ⟨by decide +kernel, by decide +kernel, by decide, by decide, by decide +kernel⟩
theorem c_J13_ntz (l : Launch) (lay : List xS) (m : xM) (x : Int) : xMet l yJ13_numberOfTrailingZeros_95d88 cJ13_numberOfTrailingZeros_95d88 3 (some .int) 1 lay [.inr (.inl x)] m (some (.inl (f_lntz x))) m :=
  xMet_i (by decide +kernel) (Nat.le_of_ble_eq_true rfl) (fun Γ C hR _ => by
    refine x_lload_n (x := x) C dJ13_numberOfTrailingZeros_95d88_0 rfl ?_
    refine x_l2i C dJ13_numberOfTrailingZeros_95d88_1 ?_
    refine x_istore_n C dJ13_numberOfTrailingZeros_95d88_2 (by decide) ?_
    refine x_iload_n (x := x) C dJ13_numberOfTrailingZeros_95d88_3 rfl ?_
    by_cases hc : xw x = 0
    · refine x_if_neN C 21 dJ13_numberOfTrailingZeros_95d88_4 (by decide) hc ?_
      refine x_bipush C dJ13_numberOfTrailingZeros_95d88_7 (by decide) ?_
      refine x_lload_n (x := x) C dJ13_numberOfTrailingZeros_95d88_9 rfl ?_
      refine x_bipush C dJ13_numberOfTrailingZeros_95d88_10 (by decide) ?_
      refine x_lushr C dJ13_numberOfTrailingZeros_95d88_12 ?_
      refine x_l2i C dJ13_numberOfTrailingZeros_95d88_13 ?_
      refine x_callSI C (dY := 0) (st := [.inl 32]) (av := [.inl ((xlushr x 32))]) dJ13_numberOfTrailingZeros_95d88_14 (by decide +kernel) xyJ6_ntz (by decide +kernel) (Nat.le_refl _) (by decide) rfl (Nat.le_of_ble_eq_true rfl) (c_J6_ntz _ _ _ _) rfl ?_
      refine x_iadd C dJ13_numberOfTrailingZeros_95d88_17 ?_
      refine x_goto C 25 dJ13_numberOfTrailingZeros_95d88_18 (by decide) ?_
      exact x_ireturn hR dJ13_numberOfTrailingZeros_95d88_25 (by unfold f_lntz; rw [if_pos hc])
    · refine x_if_neT C 21 dJ13_numberOfTrailingZeros_95d88_4 (by decide) hc ?_
      refine x_iload_n (x := x) C dJ13_numberOfTrailingZeros_95d88_21 rfl ?_
      refine x_callSI C (dY := 0) (st := []) (av := [.inl x]) dJ13_numberOfTrailingZeros_95d88_22 (by decide +kernel) xyJ6_ntz (by decide +kernel) (Nat.le_refl _) (by decide) rfl (Nat.le_of_ble_eq_true rfl) (c_J6_ntz _ _ _ _) rfl ?_
      exact x_ireturn hR dJ13_numberOfTrailingZeros_95d88_25 (by unfold f_lntz; rw [if_neg hc]))
