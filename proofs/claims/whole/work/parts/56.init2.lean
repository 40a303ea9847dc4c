/-! ===== the Model's constructor; the memory when both stand ===== -/
def Gp : Mem := fun i => match i with
  | 0 => fun j => if j = 11 then 1 else 0
  | 1 => fun j => if j = 0 then 10 else 0
  | 14 => fun j => if j = 0 then 10 else 0
  | 27 => fun j => if j = 0 then 10 else 0
  | 40 => fun j => if j = 0 then 10 else 0
  | 86 => fun j => if j = 5 then 1 else 0
  | _ => fun _ => 0
def G0 : Mem := mBeg Gp 87 10 0
theorem Rn_S {M : MI} {pc : Nat} {L : List (Option Value)} {st : List Value} {N k n N2 : Nat} {S S1 S2 : St} {out : Option Value} (e : S = S1) (h : Rn M pc L st N S1 k n out N2 S2) : Rn M pc L st N S k n out N2 S2 := e ▸ h
def modC (r : Nat) : List Ob := [.inr (12, [.ref (r + 1), .ref (r + 2), .ref (r + 3), .ref (r + 4), .long 0, .long 1, .ref (r + 5), .ref (r + 6), .int 0, .ref (r + 7), .ref (r + 8), .ref (r + 9), .ref (r + 10), .ref (r + 11), .ref (r + 12), .int 0, .int 0, .int 0, .int 0, .int 0, .ref (r + 13), .ref (r + 14)]), .inl (false, 170, fun _ => 0), .inl (false, 340, fun _ => 0), .inl (true, 2, fun _ => 0), .inl (false, 3, fun _ => 0), .inl (false, 6, fun _ => 0), .inl (false, 6, fun _ => 0), .inl (true, 48, fun _ => 0), .inl (true, 48, fun _ => 0), .inl (false, 36, fun _ => 0), .inl (true, 64, fun _ => 0), .inl (false, 10, fun _ => 0), .inl (false, 150, fun _ => 0), .inl (false, 74, fun _ => 0), .inl (false, 5, fun _ => 0)]
def modR : Ob := .inr (12, [.null, .null, .null, .null, .long 0, .long 0, .null, .null, .int 0, .null, .null, .null, .null, .null, .null, .int 0, .int 0, .int 0, .int 0, .int 0, .null, .null])
theorem len_cls : (clsC 0).length = 86 := rfl
theorem len_all : (clsC 0 ++ modC 86).length = 101 := rfl
theorem mm_0 : (clsC 0 ++ modC 86)[0]? = some (sh 0 (Gp 0)) := rfl
theorem mm_1 : (clsC 0 ++ modC 86)[1]? = some (sh 1 (Gp 1)) := rfl
theorem mm_2 : (clsC 0 ++ modC 86)[2]? = some (sh 2 (Gp 2)) := rfl
theorem mm_3 : (clsC 0 ++ modC 86)[3]? = some (sh 3 (Gp 3)) := rfl
theorem mm_4 : (clsC 0 ++ modC 86)[4]? = some (sh 4 (Gp 4)) := rfl
theorem mm_5 : (clsC 0 ++ modC 86)[5]? = some (sh 5 (Gp 5)) := rfl
theorem mm_6 : (clsC 0 ++ modC 86)[6]? = some (sh 6 (Gp 6)) := rfl
theorem mm_7 : (clsC 0 ++ modC 86)[7]? = some (sh 7 (Gp 7)) := rfl
theorem mm_8 : (clsC 0 ++ modC 86)[8]? = some (sh 8 (Gp 8)) := rfl
theorem mm_9 : (clsC 0 ++ modC 86)[9]? = some (sh 9 (Gp 9)) := rfl
theorem mm_10 : (clsC 0 ++ modC 86)[10]? = some (sh 10 (Gp 10)) := rfl
theorem mm_11 : (clsC 0 ++ modC 86)[11]? = some (sh 11 (Gp 11)) := rfl
theorem mm_12 : (clsC 0 ++ modC 86)[12]? = some (sh 12 (Gp 12)) := rfl
theorem mm_13 : (clsC 0 ++ modC 86)[13]? = some (sh 13 (Gp 13)) := rfl
theorem mm_14 : (clsC 0 ++ modC 86)[14]? = some (sh 14 (Gp 14)) := rfl
theorem mm_15 : (clsC 0 ++ modC 86)[15]? = some (sh 15 (Gp 15)) := rfl
theorem mm_16 : (clsC 0 ++ modC 86)[16]? = some (sh 16 (Gp 16)) := rfl
theorem mm_17 : (clsC 0 ++ modC 86)[17]? = some (sh 17 (Gp 17)) := rfl
theorem mm_18 : (clsC 0 ++ modC 86)[18]? = some (sh 18 (Gp 18)) := rfl
theorem mm_19 : (clsC 0 ++ modC 86)[19]? = some (sh 19 (Gp 19)) := rfl
theorem mm_20 : (clsC 0 ++ modC 86)[20]? = some (sh 20 (Gp 20)) := rfl
theorem mm_21 : (clsC 0 ++ modC 86)[21]? = some (sh 21 (Gp 21)) := rfl
theorem mm_22 : (clsC 0 ++ modC 86)[22]? = some (sh 22 (Gp 22)) := rfl
theorem mm_23 : (clsC 0 ++ modC 86)[23]? = some (sh 23 (Gp 23)) := rfl
theorem mm_24 : (clsC 0 ++ modC 86)[24]? = some (sh 24 (Gp 24)) := rfl
theorem mm_25 : (clsC 0 ++ modC 86)[25]? = some (sh 25 (Gp 25)) := rfl
theorem mm_26 : (clsC 0 ++ modC 86)[26]? = some (sh 26 (Gp 26)) := rfl
theorem mm_27 : (clsC 0 ++ modC 86)[27]? = some (sh 27 (Gp 27)) := rfl
theorem mm_28 : (clsC 0 ++ modC 86)[28]? = some (sh 28 (Gp 28)) := rfl
theorem mm_29 : (clsC 0 ++ modC 86)[29]? = some (sh 29 (Gp 29)) := rfl
theorem mm_30 : (clsC 0 ++ modC 86)[30]? = some (sh 30 (Gp 30)) := rfl
theorem mm_31 : (clsC 0 ++ modC 86)[31]? = some (sh 31 (Gp 31)) := rfl
theorem mm_32 : (clsC 0 ++ modC 86)[32]? = some (sh 32 (Gp 32)) := rfl
theorem mm_33 : (clsC 0 ++ modC 86)[33]? = some (sh 33 (Gp 33)) := rfl
theorem mm_34 : (clsC 0 ++ modC 86)[34]? = some (sh 34 (Gp 34)) := rfl
theorem mm_35 : (clsC 0 ++ modC 86)[35]? = some (sh 35 (Gp 35)) := rfl
theorem mm_36 : (clsC 0 ++ modC 86)[36]? = some (sh 36 (Gp 36)) := rfl
theorem mm_37 : (clsC 0 ++ modC 86)[37]? = some (sh 37 (Gp 37)) := rfl
theorem mm_38 : (clsC 0 ++ modC 86)[38]? = some (sh 38 (Gp 38)) := rfl
theorem mm_39 : (clsC 0 ++ modC 86)[39]? = some (sh 39 (Gp 39)) := rfl
theorem mm_40 : (clsC 0 ++ modC 86)[40]? = some (sh 40 (Gp 40)) := rfl
theorem mm_41 : (clsC 0 ++ modC 86)[41]? = some (sh 41 (Gp 41)) := rfl
theorem mm_42 : (clsC 0 ++ modC 86)[42]? = some (sh 42 (Gp 42)) := rfl
theorem mm_43 : (clsC 0 ++ modC 86)[43]? = some (sh 43 (Gp 43)) := rfl
theorem mm_44 : (clsC 0 ++ modC 86)[44]? = some (sh 44 (Gp 44)) := rfl
theorem mm_45 : (clsC 0 ++ modC 86)[45]? = some (sh 45 (Gp 45)) := rfl
theorem mm_46 : (clsC 0 ++ modC 86)[46]? = some (sh 46 (Gp 46)) := rfl
theorem mm_47 : (clsC 0 ++ modC 86)[47]? = some (sh 47 (Gp 47)) := rfl
theorem mm_48 : (clsC 0 ++ modC 86)[48]? = some (sh 48 (Gp 48)) := rfl
theorem mm_49 : (clsC 0 ++ modC 86)[49]? = some (sh 49 (Gp 49)) := rfl
theorem mm_50 : (clsC 0 ++ modC 86)[50]? = some (sh 50 (Gp 50)) := rfl
theorem mm_51 : (clsC 0 ++ modC 86)[51]? = some (sh 51 (Gp 51)) := rfl
theorem mm_52 : (clsC 0 ++ modC 86)[52]? = some (sh 52 (Gp 52)) := rfl
theorem mm_53 : (clsC 0 ++ modC 86)[53]? = some (sh 53 (Gp 53)) := rfl
theorem mm_54 : (clsC 0 ++ modC 86)[54]? = some (sh 54 (Gp 54)) := rfl
theorem mm_55 : (clsC 0 ++ modC 86)[55]? = some (sh 55 (Gp 55)) := rfl
theorem mm_56 : (clsC 0 ++ modC 86)[56]? = some (sh 56 (Gp 56)) := rfl
theorem mm_57 : (clsC 0 ++ modC 86)[57]? = some (sh 57 (Gp 57)) := rfl
theorem mm_58 : (clsC 0 ++ modC 86)[58]? = some (sh 58 (Gp 58)) := rfl
theorem mm_59 : (clsC 0 ++ modC 86)[59]? = some (sh 59 (Gp 59)) := rfl
theorem mm_60 : (clsC 0 ++ modC 86)[60]? = some (sh 60 (Gp 60)) := rfl
theorem mm_61 : (clsC 0 ++ modC 86)[61]? = some (sh 61 (Gp 61)) := rfl
theorem mm_62 : (clsC 0 ++ modC 86)[62]? = some (sh 62 (Gp 62)) := rfl
theorem mm_63 : (clsC 0 ++ modC 86)[63]? = some (sh 63 (Gp 63)) := rfl
theorem mm_64 : (clsC 0 ++ modC 86)[64]? = some (sh 64 (Gp 64)) := rfl
theorem mm_65 : (clsC 0 ++ modC 86)[65]? = some (sh 65 (Gp 65)) := rfl
theorem mm_66 : (clsC 0 ++ modC 86)[66]? = some (sh 66 (Gp 66)) := rfl
theorem mm_67 : (clsC 0 ++ modC 86)[67]? = some (sh 67 (Gp 67)) := rfl
theorem mm_68 : (clsC 0 ++ modC 86)[68]? = some (sh 68 (Gp 68)) := rfl
theorem mm_69 : (clsC 0 ++ modC 86)[69]? = some (sh 69 (Gp 69)) := rfl
theorem mm_70 : (clsC 0 ++ modC 86)[70]? = some (sh 70 (Gp 70)) := rfl
theorem mm_71 : (clsC 0 ++ modC 86)[71]? = some (sh 71 (Gp 71)) := rfl
theorem mm_72 : (clsC 0 ++ modC 86)[72]? = some (sh 72 (Gp 72)) := rfl
theorem mm_73 : (clsC 0 ++ modC 86)[73]? = some (sh 73 (Gp 73)) := rfl
theorem mm_74 : (clsC 0 ++ modC 86)[74]? = some (sh 74 (Gp 74)) := rfl
theorem mm_75 : (clsC 0 ++ modC 86)[75]? = some (sh 75 (Gp 75)) := rfl
theorem mm_76 : (clsC 0 ++ modC 86)[76]? = some (sh 76 (Gp 76)) := rfl
theorem mm_77 : (clsC 0 ++ modC 86)[77]? = some (sh 77 (Gp 77)) := rfl
theorem mm_78 : (clsC 0 ++ modC 86)[78]? = some (sh 78 (Gp 78)) := rfl
theorem mm_79 : (clsC 0 ++ modC 86)[79]? = some (sh 79 (Gp 79)) := rfl
theorem mm_80 : (clsC 0 ++ modC 86)[80]? = some (sh 80 (Gp 80)) := rfl
theorem mm_81 : (clsC 0 ++ modC 86)[81]? = some (sh 81 (Gp 81)) := rfl
theorem mm_82 : (clsC 0 ++ modC 86)[82]? = some (sh 82 (Gp 82)) := rfl
theorem mm_83 : (clsC 0 ++ modC 86)[83]? = some (sh 83 (Gp 83)) := rfl
theorem mm_84 : (clsC 0 ++ modC 86)[84]? = some (sh 84 (Gp 84)) := rfl
theorem mm_85 : (clsC 0 ++ modC 86)[85]? = some (sh 85 (Gp 85)) := rfl
theorem mm_86 : (clsC 0 ++ modC 86)[86]? = some (sh 86 (Gp 86)) := rfl
theorem mm_87 : (clsC 0 ++ modC 86)[87]? = some (sh 87 (Gp 87)) := rfl
theorem mm_88 : (clsC 0 ++ modC 86)[88]? = some (sh 88 (Gp 88)) := rfl
theorem mm_89 : (clsC 0 ++ modC 86)[89]? = some (sh 89 (Gp 89)) := rfl
theorem mm_90 : (clsC 0 ++ modC 86)[90]? = some (sh 90 (Gp 90)) := rfl
theorem mm_91 : (clsC 0 ++ modC 86)[91]? = some (sh 91 (Gp 91)) := rfl
theorem mm_92 : (clsC 0 ++ modC 86)[92]? = some (sh 92 (Gp 92)) := rfl
theorem mm_93 : (clsC 0 ++ modC 86)[93]? = some (sh 93 (Gp 93)) := rfl
theorem mm_94 : (clsC 0 ++ modC 86)[94]? = some (sh 94 (Gp 94)) := rfl
theorem mm_95 : (clsC 0 ++ modC 86)[95]? = some (sh 95 (Gp 95)) := rfl
theorem mm_96 : (clsC 0 ++ modC 86)[96]? = some (sh 96 (Gp 96)) := rfl
theorem mm_97 : (clsC 0 ++ modC 86)[97]? = some (sh 97 (Gp 97)) := rfl
theorem mm_98 : (clsC 0 ++ modC 86)[98]? = some (sh 98 (Gp 98)) := rfl
theorem mm_99 : (clsC 0 ++ modC 86)[99]? = some (sh 99 (Gp 99)) := rfl
theorem mm_100 : (clsC 0 ++ modC 86)[100]? = some (sh 100 (Gp 100)) := rfl
theorem mm_lo : ∀ i, i < 101 → (clsC 0 ++ modC 86)[i]? = some (sh i (Gp i))
  | 0, _ => mm_0
  | 1, _ => mm_1
  | 2, _ => mm_2
  | 3, _ => mm_3
  | 4, _ => mm_4
  | 5, _ => mm_5
  | 6, _ => mm_6
  | 7, _ => mm_7
  | 8, _ => mm_8
  | 9, _ => mm_9
  | 10, _ => mm_10
  | 11, _ => mm_11
  | 12, _ => mm_12
  | 13, _ => mm_13
  | 14, _ => mm_14
  | 15, _ => mm_15
  | 16, _ => mm_16
  | 17, _ => mm_17
  | 18, _ => mm_18
  | 19, _ => mm_19
  | 20, _ => mm_20
  | 21, _ => mm_21
  | 22, _ => mm_22
  | 23, _ => mm_23
  | 24, _ => mm_24
  | 25, _ => mm_25
  | 26, _ => mm_26
  | 27, _ => mm_27
  | 28, _ => mm_28
  | 29, _ => mm_29
  | 30, _ => mm_30
  | 31, _ => mm_31
  | 32, _ => mm_32
  | 33, _ => mm_33
  | 34, _ => mm_34
  | 35, _ => mm_35
  | 36, _ => mm_36
  | 37, _ => mm_37
  | 38, _ => mm_38
  | 39, _ => mm_39
  | 40, _ => mm_40
  | 41, _ => mm_41
  | 42, _ => mm_42
  | 43, _ => mm_43
  | 44, _ => mm_44
  | 45, _ => mm_45
  | 46, _ => mm_46
  | 47, _ => mm_47
  | 48, _ => mm_48
  | 49, _ => mm_49
  | 50, _ => mm_50
  | 51, _ => mm_51
  | 52, _ => mm_52
  | 53, _ => mm_53
  | 54, _ => mm_54
  | 55, _ => mm_55
  | 56, _ => mm_56
  | 57, _ => mm_57
  | 58, _ => mm_58
  | 59, _ => mm_59
  | 60, _ => mm_60
  | 61, _ => mm_61
  | 62, _ => mm_62
  | 63, _ => mm_63
  | 64, _ => mm_64
  | 65, _ => mm_65
  | 66, _ => mm_66
  | 67, _ => mm_67
  | 68, _ => mm_68
  | 69, _ => mm_69
  | 70, _ => mm_70
  | 71, _ => mm_71
  | 72, _ => mm_72
  | 73, _ => mm_73
  | 74, _ => mm_74
  | 75, _ => mm_75
  | 76, _ => mm_76
  | 77, _ => mm_77
  | 78, _ => mm_78
  | 79, _ => mm_79
  | 80, _ => mm_80
  | 81, _ => mm_81
  | 82, _ => mm_82
  | 83, _ => mm_83
  | 84, _ => mm_84
  | 85, _ => mm_85
  | 86, _ => mm_86
  | 87, _ => mm_87
  | 88, _ => mm_88
  | 89, _ => mm_89
  | 90, _ => mm_90
  | 91, _ => mm_91
  | 92, _ => mm_92
  | 93, _ => mm_93
  | 94, _ => mm_94
  | 95, _ => mm_95
  | 96, _ => mm_96
  | 97, _ => mm_97
  | 98, _ => mm_98
  | 99, _ => mm_99
  | 100, _ => mm_100
  | i + 101, h => absurd h (by omega)
theorem mm_all : ls (clsC 0 ++ modC 86) = MM Gp := by
  funext i
  unfold ls MM
  by_cases h : i < 101
  · rw [if_pos h, mm_lo i h]
  · rw [if_neg h, List.getElem?_eq_none (by rw [len_all]; omega)]
theorem c_X12a {pre : List Ob} (hg : gl (pre ++ [.inr (12, [.null, .null, .null, .null, .long 0, .long 0, .null, .null, .int 0, .null, .null, .null, .null, .null, .null, .int 0, .int 0, .int 0, .int 0, .int 0, .null, .null])])) {N2 : Nat} {S2 : St} (hk : Rn M_X12_init 121 [some (.ref pre.length)] [] (pre.length + 15) (ls (pre ++ modC pre.length)) 14 962 none N2 S2) : Rn M_X12_init 0 [some (.ref pre.length)] [] (pre.length + 1) (ls (pre ++ [.inr (12, [.null, .null, .null, .null, .long 0, .long 0, .null, .null, .int 0, .null, .null, .null, .null, .null, .null, .int 0, .int 0, .int 0, .int 0, .int 0, .null, .null])])) 0 0 none N2 S2 := by
  refine r_aload_n dX12_init_0 rfl ?_
  refine r_obj dX12_init_1 ob_X12_1 ⟨(Nat.le_of_ble_eq_true rfl), (Nat.le_of_ble_eq_true rfl)⟩ (Nat.le_of_ble_eq_true rfl) ?_
  refine r_aload_n dX12_init_4 rfl ?_
  refine r_sipush (v := 170) dX12_init_5 rfl ?_
  refine r_newa (b := false) (len := 170) dX12_init_8 rfl w_161 (by decide) (by rfl) (by decide) (gl_s (c := 1) hg rfl) (gl_L (r := pre.length) (c := 1) (by decide)) (gl_1 (r := pre.length) (c := 1) (by decide)) (Nat.le_of_ble_eq_true rfl) (Nat.le_of_ble_eq_true rfl) ?_
  rw [ls_push (pre := pre) (mid := [.inr (12, [.null, .null, .null, .null, .long 0, .long 0, .null, .null, .int 0, .null, .null, .null, .null, .null, .null, .int 0, .int 0, .int 0, .int 0, .int 0, .null, .null])]) (c := 1) (o := .inl (false, 170, fun _ => 0)) (mid' := [.inr (12, [.null, .null, .null, .null, .long 0, .long 0, .null, .null, .int 0, .null, .null, .null, .null, .null, .null, .int 0, .int 0, .int 0, .int 0, .int 0, .null, .null]), .inl (false, 170, fun _ => 0)]) rfl rfl]
  replace hg : gl (pre ++ [.inr (12, [.null, .null, .null, .null, .long 0, .long 0, .null, .null, .int 0, .null, .null, .null, .null, .null, .null, .int 0, .int 0, .int 0, .int 0, .int 0, .null, .null]), .inl (false, 170, fun _ => 0)]) := gl_push hg rfl trivial
  refine r_putF dX12_init_10 f_X12_7 rfl (ls_at (j := 0) rfl) (Nat.le_of_ble_eq_true rfl) rfl ?_
  refine Rn_S (ls_set (mid := [.inr (12, [.null, .null, .null, .null, .long 0, .long 0, .null, .null, .int 0, .null, .null, .null, .null, .null, .null, .int 0, .int 0, .int 0, .int 0, .int 0, .null, .null]), .inl (false, 170, fun _ => 0)]) (mid' := [.inr (12, [.ref (pre.length + 1), .null, .null, .null, .long 0, .long 0, .null, .null, .int 0, .null, .null, .null, .null, .null, .null, .int 0, .int 0, .int 0, .int 0, .int 0, .null, .null]), .inl (false, 170, fun _ => 0)]) (Nat.le_of_ble_eq_true rfl) rfl) ?_
  replace hg : gl (pre ++ [.inr (12, [.ref (pre.length + 1), .null, .null, .null, .long 0, .long 0, .null, .null, .int 0, .null, .null, .null, .null, .null, .null, .int 0, .int 0, .int 0, .int 0, .int 0, .null, .null]), .inl (false, 170, fun _ => 0)]) := gl_put (fk := 0) (v := .ref (pre.length + 1)) hg rfl (Nat.add_lt_add_left (Nat.le_of_ble_eq_true rfl) _) rfl
  refine r_aload_n dX12_init_13 rfl ?_
  refine r_sipush (v := 340) dX12_init_14 rfl ?_
  refine r_newa (b := false) (len := 340) dX12_init_17 rfl w_161 (by decide) (by rfl) (by decide) (gl_s (c := 2) hg rfl) (gl_L (r := pre.length) (c := 2) (by decide)) (gl_1 (r := pre.length) (c := 2) (by decide)) (Nat.le_of_ble_eq_true rfl) (Nat.le_of_ble_eq_true rfl) ?_
  rw [ls_push (pre := pre) (mid := [.inr (12, [.ref (pre.length + 1), .null, .null, .null, .long 0, .long 0, .null, .null, .int 0, .null, .null, .null, .null, .null, .null, .int 0, .int 0, .int 0, .int 0, .int 0, .null, .null]), .inl (false, 170, fun _ => 0)]) (c := 2) (o := .inl (false, 340, fun _ => 0)) (mid' := [.inr (12, [.ref (pre.length + 1), .null, .null, .null, .long 0, .long 0, .null, .null, .int 0, .null, .null, .null, .null, .null, .null, .int 0, .int 0, .int 0, .int 0, .int 0, .null, .null]), .inl (false, 170, fun _ => 0), .inl (false, 340, fun _ => 0)]) rfl rfl]
  replace hg : gl (pre ++ [.inr (12, [.ref (pre.length + 1), .null, .null, .null, .long 0, .long 0, .null, .null, .int 0, .null, .null, .null, .null, .null, .null, .int 0, .int 0, .int 0, .int 0, .int 0, .null, .null]), .inl (false, 170, fun _ => 0), .inl (false, 340, fun _ => 0)]) := gl_push hg rfl trivial
  refine r_putF dX12_init_19 f_X12_13 rfl (ls_at (j := 0) rfl) (Nat.le_of_ble_eq_true rfl) rfl ?_
  refine Rn_S (ls_set (mid := [.inr (12, [.ref (pre.length + 1), .null, .null, .null, .long 0, .long 0, .null, .null, .int 0, .null, .null, .null, .null, .null, .null, .int 0, .int 0, .int 0, .int 0, .int 0, .null, .null]), .inl (false, 170, fun _ => 0), .inl (false, 340, fun _ => 0)]) (mid' := [.inr (12, [.ref (pre.length + 1), .ref (pre.length + 2), .null, .null, .long 0, .long 0, .null, .null, .int 0, .null, .null, .null, .null, .null, .null, .int 0, .int 0, .int 0, .int 0, .int 0, .null, .null]), .inl (false, 170, fun _ => 0), .inl (false, 340, fun _ => 0)]) (Nat.le_of_ble_eq_true rfl) rfl) ?_
  replace hg : gl (pre ++ [.inr (12, [.ref (pre.length + 1), .ref (pre.length + 2), .null, .null, .long 0, .long 0, .null, .null, .int 0, .null, .null, .null, .null, .null, .null, .int 0, .int 0, .int 0, .int 0, .int 0, .null, .null]), .inl (false, 170, fun _ => 0), .inl (false, 340, fun _ => 0)]) := gl_put (fk := 1) (v := .ref (pre.length + 2)) hg rfl (Nat.add_lt_add_left (Nat.le_of_ble_eq_true rfl) _) rfl
  refine r_aload_n dX12_init_22 rfl ?_
  refine r_iconst dX12_init_23 ?_
  refine r_newa (b := true) (len := 2) dX12_init_24 rfl w_162 (by decide) (by rfl) (by decide) (gl_s (c := 3) hg rfl) (gl_L (r := pre.length) (c := 3) (by decide)) (gl_1 (r := pre.length) (c := 3) (by decide)) (Nat.le_of_ble_eq_true rfl) (Nat.le_of_ble_eq_true rfl) ?_
  rw [ls_push (pre := pre) (mid := [.inr (12, [.ref (pre.length + 1), .ref (pre.length + 2), .null, .null, .long 0, .long 0, .null, .null, .int 0, .null, .null, .null, .null, .null, .null, .int 0, .int 0, .int 0, .int 0, .int 0, .null, .null]), .inl (false, 170, fun _ => 0), .inl (false, 340, fun _ => 0)]) (c := 3) (o := .inl (true, 2, fun _ => 0)) (mid' := [.inr (12, [.ref (pre.length + 1), .ref (pre.length + 2), .null, .null, .long 0, .long 0, .null, .null, .int 0, .null, .null, .null, .null, .null, .null, .int 0, .int 0, .int 0, .int 0, .int 0, .null, .null]), .inl (false, 170, fun _ => 0), .inl (false, 340, fun _ => 0), .inl (true, 2, fun _ => 0)]) rfl rfl]
  replace hg : gl (pre ++ [.inr (12, [.ref (pre.length + 1), .ref (pre.length + 2), .null, .null, .long 0, .long 0, .null, .null, .int 0, .null, .null, .null, .null, .null, .null, .int 0, .int 0, .int 0, .int 0, .int 0, .null, .null]), .inl (false, 170, fun _ => 0), .inl (false, 340, fun _ => 0), .inl (true, 2, fun _ => 0)]) := gl_push hg rfl trivial
  refine r_putF dX12_init_26 f_X12_16 rfl (ls_at (j := 0) rfl) (Nat.le_of_ble_eq_true rfl) rfl ?_
  refine Rn_S (ls_set (mid := [.inr (12, [.ref (pre.length + 1), .ref (pre.length + 2), .null, .null, .long 0, .long 0, .null, .null, .int 0, .null, .null, .null, .null, .null, .null, .int 0, .int 0, .int 0, .int 0, .int 0, .null, .null]), .inl (false, 170, fun _ => 0), .inl (false, 340, fun _ => 0), .inl (true, 2, fun _ => 0)]) (mid' := [.inr (12, [.ref (pre.length + 1), .ref (pre.length + 2), .ref (pre.length + 3), .null, .long 0, .long 0, .null, .null, .int 0, .null, .null, .null, .null, .null, .null, .int 0, .int 0, .int 0, .int 0, .int 0, .null, .null]), .inl (false, 170, fun _ => 0), .inl (false, 340, fun _ => 0), .inl (true, 2, fun _ => 0)]) (Nat.le_of_ble_eq_true rfl) rfl) ?_
  replace hg : gl (pre ++ [.inr (12, [.ref (pre.length + 1), .ref (pre.length + 2), .ref (pre.length + 3), .null, .long 0, .long 0, .null, .null, .int 0, .null, .null, .null, .null, .null, .null, .int 0, .int 0, .int 0, .int 0, .int 0, .null, .null]), .inl (false, 170, fun _ => 0), .inl (false, 340, fun _ => 0), .inl (true, 2, fun _ => 0)]) := gl_put (fk := 2) (v := .ref (pre.length + 3)) hg rfl (Nat.add_lt_add_left (Nat.le_of_ble_eq_true rfl) _) rfl
  refine r_aload_n dX12_init_29 rfl ?_
  refine r_iconst dX12_init_30 ?_
  refine r_newa (b := false) (len := 3) dX12_init_31 rfl w_161 (by decide) (by rfl) (by decide) (gl_s (c := 4) hg rfl) (gl_L (r := pre.length) (c := 4) (by decide)) (gl_1 (r := pre.length) (c := 4) (by decide)) (Nat.le_of_ble_eq_true rfl) (Nat.le_of_ble_eq_true rfl) ?_
  rw [ls_push (pre := pre) (mid := [.inr (12, [.ref (pre.length + 1), .ref (pre.length + 2), .ref (pre.length + 3), .null, .long 0, .long 0, .null, .null, .int 0, .null, .null, .null, .null, .null, .null, .int 0, .int 0, .int 0, .int 0, .int 0, .null, .null]), .inl (false, 170, fun _ => 0), .inl (false, 340, fun _ => 0), .inl (true, 2, fun _ => 0)]) (c := 4) (o := .inl (false, 3, fun _ => 0)) (mid' := [.inr (12, [.ref (pre.length + 1), .ref (pre.length + 2), .ref (pre.length + 3), .null, .long 0, .long 0, .null, .null, .int 0, .null, .null, .null, .null, .null, .null, .int 0, .int 0, .int 0, .int 0, .int 0, .null, .null]), .inl (false, 170, fun _ => 0), .inl (false, 340, fun _ => 0), .inl (true, 2, fun _ => 0), .inl (false, 3, fun _ => 0)]) rfl rfl]
  replace hg : gl (pre ++ [.inr (12, [.ref (pre.length + 1), .ref (pre.length + 2), .ref (pre.length + 3), .null, .long 0, .long 0, .null, .null, .int 0, .null, .null, .null, .null, .null, .null, .int 0, .int 0, .int 0, .int 0, .int 0, .null, .null]), .inl (false, 170, fun _ => 0), .inl (false, 340, fun _ => 0), .inl (true, 2, fun _ => 0), .inl (false, 3, fun _ => 0)]) := gl_push hg rfl trivial
  refine r_putF dX12_init_33 f_X12_20 rfl (ls_at (j := 0) rfl) (Nat.le_of_ble_eq_true rfl) rfl ?_
  refine Rn_S (ls_set (mid := [.inr (12, [.ref (pre.length + 1), .ref (pre.length + 2), .ref (pre.length + 3), .null, .long 0, .long 0, .null, .null, .int 0, .null, .null, .null, .null, .null, .null, .int 0, .int 0, .int 0, .int 0, .int 0, .null, .null]), .inl (false, 170, fun _ => 0), .inl (false, 340, fun _ => 0), .inl (true, 2, fun _ => 0), .inl (false, 3, fun _ => 0)]) (mid' := [.inr (12, [.ref (pre.length + 1), .ref (pre.length + 2), .ref (pre.length + 3), .ref (pre.length + 4), .long 0, .long 0, .null, .null, .int 0, .null, .null, .null, .null, .null, .null, .int 0, .int 0, .int 0, .int 0, .int 0, .null, .null]), .inl (false, 170, fun _ => 0), .inl (false, 340, fun _ => 0), .inl (true, 2, fun _ => 0), .inl (false, 3, fun _ => 0)]) (Nat.le_of_ble_eq_true rfl) rfl) ?_
  replace hg : gl (pre ++ [.inr (12, [.ref (pre.length + 1), .ref (pre.length + 2), .ref (pre.length + 3), .ref (pre.length + 4), .long 0, .long 0, .null, .null, .int 0, .null, .null, .null, .null, .null, .null, .int 0, .int 0, .int 0, .int 0, .int 0, .null, .null]), .inl (false, 170, fun _ => 0), .inl (false, 340, fun _ => 0), .inl (true, 2, fun _ => 0), .inl (false, 3, fun _ => 0)]) := gl_put (fk := 3) (v := .ref (pre.length + 4)) hg rfl (Nat.add_lt_add_left (Nat.le_of_ble_eq_true rfl) _) rfl
  refine r_aload_n dX12_init_36 rfl ?_
  refine r_lconst (v := 1) dX12_init_37 rfl ?_
  refine r_putf dX12_init_38 f_X12_23 (ls_at (j := 0) rfl) (Nat.le_of_ble_eq_true rfl) rfl ?_
  refine Rn_S (ls_set (mid := [.inr (12, [.ref (pre.length + 1), .ref (pre.length + 2), .ref (pre.length + 3), .ref (pre.length + 4), .long 0, .long 0, .null, .null, .int 0, .null, .null, .null, .null, .null, .null, .int 0, .int 0, .int 0, .int 0, .int 0, .null, .null]), .inl (false, 170, fun _ => 0), .inl (false, 340, fun _ => 0), .inl (true, 2, fun _ => 0), .inl (false, 3, fun _ => 0)]) (mid' := [.inr (12, [.ref (pre.length + 1), .ref (pre.length + 2), .ref (pre.length + 3), .ref (pre.length + 4), .long 0, .long 1, .null, .null, .int 0, .null, .null, .null, .null, .null, .null, .int 0, .int 0, .int 0, .int 0, .int 0, .null, .null]), .inl (false, 170, fun _ => 0), .inl (false, 340, fun _ => 0), .inl (true, 2, fun _ => 0), .inl (false, 3, fun _ => 0)]) (Nat.le_of_ble_eq_true rfl) rfl) ?_
  replace hg : gl (pre ++ [.inr (12, [.ref (pre.length + 1), .ref (pre.length + 2), .ref (pre.length + 3), .ref (pre.length + 4), .long 0, .long 1, .null, .null, .int 0, .null, .null, .null, .null, .null, .null, .int 0, .int 0, .int 0, .int 0, .int 0, .null, .null]), .inl (false, 170, fun _ => 0), .inl (false, 340, fun _ => 0), .inl (true, 2, fun _ => 0), .inl (false, 3, fun _ => 0)]) := gl_put (fk := 5) (v := .long 1) hg rfl trivial rfl
  refine r_aload_n dX12_init_41 rfl ?_
  refine r_bipush (v := 6) dX12_init_42 rfl ?_
  refine r_newa (b := false) (len := 6) dX12_init_44 rfl w_161 (by decide) (by rfl) (by decide) (gl_s (c := 5) hg rfl) (gl_L (r := pre.length) (c := 5) (by decide)) (gl_1 (r := pre.length) (c := 5) (by decide)) (Nat.le_of_ble_eq_true rfl) (Nat.le_of_ble_eq_true rfl) ?_
  rw [ls_push (pre := pre) (mid := [.inr (12, [.ref (pre.length + 1), .ref (pre.length + 2), .ref (pre.length + 3), .ref (pre.length + 4), .long 0, .long 1, .null, .null, .int 0, .null, .null, .null, .null, .null, .null, .int 0, .int 0, .int 0, .int 0, .int 0, .null, .null]), .inl (false, 170, fun _ => 0), .inl (false, 340, fun _ => 0), .inl (true, 2, fun _ => 0), .inl (false, 3, fun _ => 0)]) (c := 5) (o := .inl (false, 6, fun _ => 0)) (mid' := [.inr (12, [.ref (pre.length + 1), .ref (pre.length + 2), .ref (pre.length + 3), .ref (pre.length + 4), .long 0, .long 1, .null, .null, .int 0, .null, .null, .null, .null, .null, .null, .int 0, .int 0, .int 0, .int 0, .int 0, .null, .null]), .inl (false, 170, fun _ => 0), .inl (false, 340, fun _ => 0), .inl (true, 2, fun _ => 0), .inl (false, 3, fun _ => 0), .inl (false, 6, fun _ => 0)]) rfl rfl]
  replace hg : gl (pre ++ [.inr (12, [.ref (pre.length + 1), .ref (pre.length + 2), .ref (pre.length + 3), .ref (pre.length + 4), .long 0, .long 1, .null, .null, .int 0, .null, .null, .null, .null, .null, .null, .int 0, .int 0, .int 0, .int 0, .int 0, .null, .null]), .inl (false, 170, fun _ => 0), .inl (false, 340, fun _ => 0), .inl (true, 2, fun _ => 0), .inl (false, 3, fun _ => 0), .inl (false, 6, fun _ => 0)]) := gl_push hg rfl trivial
  refine r_putF dX12_init_46 f_X12_27 rfl (ls_at (j := 0) rfl) (Nat.le_of_ble_eq_true rfl) rfl ?_
  refine Rn_S (ls_set (mid := [.inr (12, [.ref (pre.length + 1), .ref (pre.length + 2), .ref (pre.length + 3), .ref (pre.length + 4), .long 0, .long 1, .null, .null, .int 0, .null, .null, .null, .null, .null, .null, .int 0, .int 0, .int 0, .int 0, .int 0, .null, .null]), .inl (false, 170, fun _ => 0), .inl (false, 340, fun _ => 0), .inl (true, 2, fun _ => 0), .inl (false, 3, fun _ => 0), .inl (false, 6, fun _ => 0)]) (mid' := [.inr (12, [.ref (pre.length + 1), .ref (pre.length + 2), .ref (pre.length + 3), .ref (pre.length + 4), .long 0, .long 1, .ref (pre.length + 5), .null, .int 0, .null, .null, .null, .null, .null, .null, .int 0, .int 0, .int 0, .int 0, .int 0, .null, .null]), .inl (false, 170, fun _ => 0), .inl (false, 340, fun _ => 0), .inl (true, 2, fun _ => 0), .inl (false, 3, fun _ => 0), .inl (false, 6, fun _ => 0)]) (Nat.le_of_ble_eq_true rfl) rfl) ?_
  replace hg : gl (pre ++ [.inr (12, [.ref (pre.length + 1), .ref (pre.length + 2), .ref (pre.length + 3), .ref (pre.length + 4), .long 0, .long 1, .ref (pre.length + 5), .null, .int 0, .null, .null, .null, .null, .null, .null, .int 0, .int 0, .int 0, .int 0, .int 0, .null, .null]), .inl (false, 170, fun _ => 0), .inl (false, 340, fun _ => 0), .inl (true, 2, fun _ => 0), .inl (false, 3, fun _ => 0), .inl (false, 6, fun _ => 0)]) := gl_put (fk := 6) (v := .ref (pre.length + 5)) hg rfl (Nat.add_lt_add_left (Nat.le_of_ble_eq_true rfl) _) rfl
  refine r_aload_n dX12_init_49 rfl ?_
  refine r_bipush (v := 6) dX12_init_50 rfl ?_
  refine r_newa (b := false) (len := 6) dX12_init_52 rfl w_161 (by decide) (by rfl) (by decide) (gl_s (c := 6) hg rfl) (gl_L (r := pre.length) (c := 6) (by decide)) (gl_1 (r := pre.length) (c := 6) (by decide)) (Nat.le_of_ble_eq_true rfl) (Nat.le_of_ble_eq_true rfl) ?_
  rw [ls_push (pre := pre) (mid := [.inr (12, [.ref (pre.length + 1), .ref (pre.length + 2), .ref (pre.length + 3), .ref (pre.length + 4), .long 0, .long 1, .ref (pre.length + 5), .null, .int 0, .null, .null, .null, .null, .null, .null, .int 0, .int 0, .int 0, .int 0, .int 0, .null, .null]), .inl (false, 170, fun _ => 0), .inl (false, 340, fun _ => 0), .inl (true, 2, fun _ => 0), .inl (false, 3, fun _ => 0), .inl (false, 6, fun _ => 0)]) (c := 6) (o := .inl (false, 6, fun _ => 0)) (mid' := [.inr (12, [.ref (pre.length + 1), .ref (pre.length + 2), .ref (pre.length + 3), .ref (pre.length + 4), .long 0, .long 1, .ref (pre.length + 5), .null, .int 0, .null, .null, .null, .null, .null, .null, .int 0, .int 0, .int 0, .int 0, .int 0, .null, .null]), .inl (false, 170, fun _ => 0), .inl (false, 340, fun _ => 0), .inl (true, 2, fun _ => 0), .inl (false, 3, fun _ => 0), .inl (false, 6, fun _ => 0), .inl (false, 6, fun _ => 0)]) rfl rfl]
  replace hg : gl (pre ++ [.inr (12, [.ref (pre.length + 1), .ref (pre.length + 2), .ref (pre.length + 3), .ref (pre.length + 4), .long 0, .long 1, .ref (pre.length + 5), .null, .int 0, .null, .null, .null, .null, .null, .null, .int 0, .int 0, .int 0, .int 0, .int 0, .null, .null]), .inl (false, 170, fun _ => 0), .inl (false, 340, fun _ => 0), .inl (true, 2, fun _ => 0), .inl (false, 3, fun _ => 0), .inl (false, 6, fun _ => 0), .inl (false, 6, fun _ => 0)]) := gl_push hg rfl trivial
  refine r_putF dX12_init_54 f_X12_30 rfl (ls_at (j := 0) rfl) (Nat.le_of_ble_eq_true rfl) rfl ?_
  refine Rn_S (ls_set (mid := [.inr (12, [.ref (pre.length + 1), .ref (pre.length + 2), .ref (pre.length + 3), .ref (pre.length + 4), .long 0, .long 1, .ref (pre.length + 5), .null, .int 0, .null, .null, .null, .null, .null, .null, .int 0, .int 0, .int 0, .int 0, .int 0, .null, .null]), .inl (false, 170, fun _ => 0), .inl (false, 340, fun _ => 0), .inl (true, 2, fun _ => 0), .inl (false, 3, fun _ => 0), .inl (false, 6, fun _ => 0), .inl (false, 6, fun _ => 0)]) (mid' := [.inr (12, [.ref (pre.length + 1), .ref (pre.length + 2), .ref (pre.length + 3), .ref (pre.length + 4), .long 0, .long 1, .ref (pre.length + 5), .ref (pre.length + 6), .int 0, .null, .null, .null, .null, .null, .null, .int 0, .int 0, .int 0, .int 0, .int 0, .null, .null]), .inl (false, 170, fun _ => 0), .inl (false, 340, fun _ => 0), .inl (true, 2, fun _ => 0), .inl (false, 3, fun _ => 0), .inl (false, 6, fun _ => 0), .inl (false, 6, fun _ => 0)]) (Nat.le_of_ble_eq_true rfl) rfl) ?_
  replace hg : gl (pre ++ [.inr (12, [.ref (pre.length + 1), .ref (pre.length + 2), .ref (pre.length + 3), .ref (pre.length + 4), .long 0, .long 1, .ref (pre.length + 5), .ref (pre.length + 6), .int 0, .null, .null, .null, .null, .null, .null, .int 0, .int 0, .int 0, .int 0, .int 0, .null, .null]), .inl (false, 170, fun _ => 0), .inl (false, 340, fun _ => 0), .inl (true, 2, fun _ => 0), .inl (false, 3, fun _ => 0), .inl (false, 6, fun _ => 0), .inl (false, 6, fun _ => 0)]) := gl_put (fk := 7) (v := .ref (pre.length + 6)) hg rfl (Nat.add_lt_add_left (Nat.le_of_ble_eq_true rfl) _) rfl
  refine r_aload_n dX12_init_57 rfl ?_
  refine r_bipush (v := 48) dX12_init_58 rfl ?_
  refine r_newa (b := true) (len := 48) dX12_init_60 rfl w_162 (by decide) (by rfl) (by decide) (gl_s (c := 7) hg rfl) (gl_L (r := pre.length) (c := 7) (by decide)) (gl_1 (r := pre.length) (c := 7) (by decide)) (Nat.le_of_ble_eq_true rfl) (Nat.le_of_ble_eq_true rfl) ?_
  rw [ls_push (pre := pre) (mid := [.inr (12, [.ref (pre.length + 1), .ref (pre.length + 2), .ref (pre.length + 3), .ref (pre.length + 4), .long 0, .long 1, .ref (pre.length + 5), .ref (pre.length + 6), .int 0, .null, .null, .null, .null, .null, .null, .int 0, .int 0, .int 0, .int 0, .int 0, .null, .null]), .inl (false, 170, fun _ => 0), .inl (false, 340, fun _ => 0), .inl (true, 2, fun _ => 0), .inl (false, 3, fun _ => 0), .inl (false, 6, fun _ => 0), .inl (false, 6, fun _ => 0)]) (c := 7) (o := .inl (true, 48, fun _ => 0)) (mid' := [.inr (12, [.ref (pre.length + 1), .ref (pre.length + 2), .ref (pre.length + 3), .ref (pre.length + 4), .long 0, .long 1, .ref (pre.length + 5), .ref (pre.length + 6), .int 0, .null, .null, .null, .null, .null, .null, .int 0, .int 0, .int 0, .int 0, .int 0, .null, .null]), .inl (false, 170, fun _ => 0), .inl (false, 340, fun _ => 0), .inl (true, 2, fun _ => 0), .inl (false, 3, fun _ => 0), .inl (false, 6, fun _ => 0), .inl (false, 6, fun _ => 0), .inl (true, 48, fun _ => 0)]) rfl rfl]
  replace hg : gl (pre ++ [.inr (12, [.ref (pre.length + 1), .ref (pre.length + 2), .ref (pre.length + 3), .ref (pre.length + 4), .long 0, .long 1, .ref (pre.length + 5), .ref (pre.length + 6), .int 0, .null, .null, .null, .null, .null, .null, .int 0, .int 0, .int 0, .int 0, .int 0, .null, .null]), .inl (false, 170, fun _ => 0), .inl (false, 340, fun _ => 0), .inl (true, 2, fun _ => 0), .inl (false, 3, fun _ => 0), .inl (false, 6, fun _ => 0), .inl (false, 6, fun _ => 0), .inl (true, 48, fun _ => 0)]) := gl_push hg rfl trivial
  refine r_putF dX12_init_62 f_X12_33 rfl (ls_at (j := 0) rfl) (Nat.le_of_ble_eq_true rfl) rfl ?_
  refine Rn_S (ls_set (mid := [.inr (12, [.ref (pre.length + 1), .ref (pre.length + 2), .ref (pre.length + 3), .ref (pre.length + 4), .long 0, .long 1, .ref (pre.length + 5), .ref (pre.length + 6), .int 0, .null, .null, .null, .null, .null, .null, .int 0, .int 0, .int 0, .int 0, .int 0, .null, .null]), .inl (false, 170, fun _ => 0), .inl (false, 340, fun _ => 0), .inl (true, 2, fun _ => 0), .inl (false, 3, fun _ => 0), .inl (false, 6, fun _ => 0), .inl (false, 6, fun _ => 0), .inl (true, 48, fun _ => 0)]) (mid' := [.inr (12, [.ref (pre.length + 1), .ref (pre.length + 2), .ref (pre.length + 3), .ref (pre.length + 4), .long 0, .long 1, .ref (pre.length + 5), .ref (pre.length + 6), .int 0, .ref (pre.length + 7), .null, .null, .null, .null, .null, .int 0, .int 0, .int 0, .int 0, .int 0, .null, .null]), .inl (false, 170, fun _ => 0), .inl (false, 340, fun _ => 0), .inl (true, 2, fun _ => 0), .inl (false, 3, fun _ => 0), .inl (false, 6, fun _ => 0), .inl (false, 6, fun _ => 0), .inl (true, 48, fun _ => 0)]) (Nat.le_of_ble_eq_true rfl) rfl) ?_
  replace hg : gl (pre ++ [.inr (12, [.ref (pre.length + 1), .ref (pre.length + 2), .ref (pre.length + 3), .ref (pre.length + 4), .long 0, .long 1, .ref (pre.length + 5), .ref (pre.length + 6), .int 0, .ref (pre.length + 7), .null, .null, .null, .null, .null, .int 0, .int 0, .int 0, .int 0, .int 0, .null, .null]), .inl (false, 170, fun _ => 0), .inl (false, 340, fun _ => 0), .inl (true, 2, fun _ => 0), .inl (false, 3, fun _ => 0), .inl (false, 6, fun _ => 0), .inl (false, 6, fun _ => 0), .inl (true, 48, fun _ => 0)]) := gl_put (fk := 9) (v := .ref (pre.length + 7)) hg rfl (Nat.add_lt_add_left (Nat.le_of_ble_eq_true rfl) _) rfl
  refine r_aload_n dX12_init_65 rfl ?_
  refine r_bipush (v := 48) dX12_init_66 rfl ?_
  refine r_newa (b := true) (len := 48) dX12_init_68 rfl w_162 (by decide) (by rfl) (by decide) (gl_s (c := 8) hg rfl) (gl_L (r := pre.length) (c := 8) (by decide)) (gl_1 (r := pre.length) (c := 8) (by decide)) (Nat.le_of_ble_eq_true rfl) (Nat.le_of_ble_eq_true rfl) ?_
  rw [ls_push (pre := pre) (mid := [.inr (12, [.ref (pre.length + 1), .ref (pre.length + 2), .ref (pre.length + 3), .ref (pre.length + 4), .long 0, .long 1, .ref (pre.length + 5), .ref (pre.length + 6), .int 0, .ref (pre.length + 7), .null, .null, .null, .null, .null, .int 0, .int 0, .int 0, .int 0, .int 0, .null, .null]), .inl (false, 170, fun _ => 0), .inl (false, 340, fun _ => 0), .inl (true, 2, fun _ => 0), .inl (false, 3, fun _ => 0), .inl (false, 6, fun _ => 0), .inl (false, 6, fun _ => 0), .inl (true, 48, fun _ => 0)]) (c := 8) (o := .inl (true, 48, fun _ => 0)) (mid' := [.inr (12, [.ref (pre.length + 1), .ref (pre.length + 2), .ref (pre.length + 3), .ref (pre.length + 4), .long 0, .long 1, .ref (pre.length + 5), .ref (pre.length + 6), .int 0, .ref (pre.length + 7), .null, .null, .null, .null, .null, .int 0, .int 0, .int 0, .int 0, .int 0, .null, .null]), .inl (false, 170, fun _ => 0), .inl (false, 340, fun _ => 0), .inl (true, 2, fun _ => 0), .inl (false, 3, fun _ => 0), .inl (false, 6, fun _ => 0), .inl (false, 6, fun _ => 0), .inl (true, 48, fun _ => 0), .inl (true, 48, fun _ => 0)]) rfl rfl]
  replace hg : gl (pre ++ [.inr (12, [.ref (pre.length + 1), .ref (pre.length + 2), .ref (pre.length + 3), .ref (pre.length + 4), .long 0, .long 1, .ref (pre.length + 5), .ref (pre.length + 6), .int 0, .ref (pre.length + 7), .null, .null, .null, .null, .null, .int 0, .int 0, .int 0, .int 0, .int 0, .null, .null]), .inl (false, 170, fun _ => 0), .inl (false, 340, fun _ => 0), .inl (true, 2, fun _ => 0), .inl (false, 3, fun _ => 0), .inl (false, 6, fun _ => 0), .inl (false, 6, fun _ => 0), .inl (true, 48, fun _ => 0), .inl (true, 48, fun _ => 0)]) := gl_push hg rfl trivial
  refine r_putF dX12_init_70 f_X12_36 rfl (ls_at (j := 0) rfl) (Nat.le_of_ble_eq_true rfl) rfl ?_
  refine Rn_S (ls_set (mid := [.inr (12, [.ref (pre.length + 1), .ref (pre.length + 2), .ref (pre.length + 3), .ref (pre.length + 4), .long 0, .long 1, .ref (pre.length + 5), .ref (pre.length + 6), .int 0, .ref (pre.length + 7), .null, .null, .null, .null, .null, .int 0, .int 0, .int 0, .int 0, .int 0, .null, .null]), .inl (false, 170, fun _ => 0), .inl (false, 340, fun _ => 0), .inl (true, 2, fun _ => 0), .inl (false, 3, fun _ => 0), .inl (false, 6, fun _ => 0), .inl (false, 6, fun _ => 0), .inl (true, 48, fun _ => 0), .inl (true, 48, fun _ => 0)]) (mid' := [.inr (12, [.ref (pre.length + 1), .ref (pre.length + 2), .ref (pre.length + 3), .ref (pre.length + 4), .long 0, .long 1, .ref (pre.length + 5), .ref (pre.length + 6), .int 0, .ref (pre.length + 7), .ref (pre.length + 8), .null, .null, .null, .null, .int 0, .int 0, .int 0, .int 0, .int 0, .null, .null]), .inl (false, 170, fun _ => 0), .inl (false, 340, fun _ => 0), .inl (true, 2, fun _ => 0), .inl (false, 3, fun _ => 0), .inl (false, 6, fun _ => 0), .inl (false, 6, fun _ => 0), .inl (true, 48, fun _ => 0), .inl (true, 48, fun _ => 0)]) (Nat.le_of_ble_eq_true rfl) rfl) ?_
  replace hg : gl (pre ++ [.inr (12, [.ref (pre.length + 1), .ref (pre.length + 2), .ref (pre.length + 3), .ref (pre.length + 4), .long 0, .long 1, .ref (pre.length + 5), .ref (pre.length + 6), .int 0, .ref (pre.length + 7), .ref (pre.length + 8), .null, .null, .null, .null, .int 0, .int 0, .int 0, .int 0, .int 0, .null, .null]), .inl (false, 170, fun _ => 0), .inl (false, 340, fun _ => 0), .inl (true, 2, fun _ => 0), .inl (false, 3, fun _ => 0), .inl (false, 6, fun _ => 0), .inl (false, 6, fun _ => 0), .inl (true, 48, fun _ => 0), .inl (true, 48, fun _ => 0)]) := gl_put (fk := 10) (v := .ref (pre.length + 8)) hg rfl (Nat.add_lt_add_left (Nat.le_of_ble_eq_true rfl) _) rfl
  refine r_aload_n dX12_init_73 rfl ?_
  refine r_bipush (v := 36) dX12_init_74 rfl ?_
  refine r_newa (b := false) (len := 36) dX12_init_76 rfl w_161 (by decide) (by rfl) (by decide) (gl_s (c := 9) hg rfl) (gl_L (r := pre.length) (c := 9) (by decide)) (gl_1 (r := pre.length) (c := 9) (by decide)) (Nat.le_of_ble_eq_true rfl) (Nat.le_of_ble_eq_true rfl) ?_
  rw [ls_push (pre := pre) (mid := [.inr (12, [.ref (pre.length + 1), .ref (pre.length + 2), .ref (pre.length + 3), .ref (pre.length + 4), .long 0, .long 1, .ref (pre.length + 5), .ref (pre.length + 6), .int 0, .ref (pre.length + 7), .ref (pre.length + 8), .null, .null, .null, .null, .int 0, .int 0, .int 0, .int 0, .int 0, .null, .null]), .inl (false, 170, fun _ => 0), .inl (false, 340, fun _ => 0), .inl (true, 2, fun _ => 0), .inl (false, 3, fun _ => 0), .inl (false, 6, fun _ => 0), .inl (false, 6, fun _ => 0), .inl (true, 48, fun _ => 0), .inl (true, 48, fun _ => 0)]) (c := 9) (o := .inl (false, 36, fun _ => 0)) (mid' := [.inr (12, [.ref (pre.length + 1), .ref (pre.length + 2), .ref (pre.length + 3), .ref (pre.length + 4), .long 0, .long 1, .ref (pre.length + 5), .ref (pre.length + 6), .int 0, .ref (pre.length + 7), .ref (pre.length + 8), .null, .null, .null, .null, .int 0, .int 0, .int 0, .int 0, .int 0, .null, .null]), .inl (false, 170, fun _ => 0), .inl (false, 340, fun _ => 0), .inl (true, 2, fun _ => 0), .inl (false, 3, fun _ => 0), .inl (false, 6, fun _ => 0), .inl (false, 6, fun _ => 0), .inl (true, 48, fun _ => 0), .inl (true, 48, fun _ => 0), .inl (false, 36, fun _ => 0)]) rfl rfl]
  replace hg : gl (pre ++ [.inr (12, [.ref (pre.length + 1), .ref (pre.length + 2), .ref (pre.length + 3), .ref (pre.length + 4), .long 0, .long 1, .ref (pre.length + 5), .ref (pre.length + 6), .int 0, .ref (pre.length + 7), .ref (pre.length + 8), .null, .null, .null, .null, .int 0, .int 0, .int 0, .int 0, .int 0, .null, .null]), .inl (false, 170, fun _ => 0), .inl (false, 340, fun _ => 0), .inl (true, 2, fun _ => 0), .inl (false, 3, fun _ => 0), .inl (false, 6, fun _ => 0), .inl (false, 6, fun _ => 0), .inl (true, 48, fun _ => 0), .inl (true, 48, fun _ => 0), .inl (false, 36, fun _ => 0)]) := gl_push hg rfl trivial
  refine r_putF dX12_init_78 f_X12_39 rfl (ls_at (j := 0) rfl) (Nat.le_of_ble_eq_true rfl) rfl ?_
  refine Rn_S (ls_set (mid := [.inr (12, [.ref (pre.length + 1), .ref (pre.length + 2), .ref (pre.length + 3), .ref (pre.length + 4), .long 0, .long 1, .ref (pre.length + 5), .ref (pre.length + 6), .int 0, .ref (pre.length + 7), .ref (pre.length + 8), .null, .null, .null, .null, .int 0, .int 0, .int 0, .int 0, .int 0, .null, .null]), .inl (false, 170, fun _ => 0), .inl (false, 340, fun _ => 0), .inl (true, 2, fun _ => 0), .inl (false, 3, fun _ => 0), .inl (false, 6, fun _ => 0), .inl (false, 6, fun _ => 0), .inl (true, 48, fun _ => 0), .inl (true, 48, fun _ => 0), .inl (false, 36, fun _ => 0)]) (mid' := [.inr (12, [.ref (pre.length + 1), .ref (pre.length + 2), .ref (pre.length + 3), .ref (pre.length + 4), .long 0, .long 1, .ref (pre.length + 5), .ref (pre.length + 6), .int 0, .ref (pre.length + 7), .ref (pre.length + 8), .ref (pre.length + 9), .null, .null, .null, .int 0, .int 0, .int 0, .int 0, .int 0, .null, .null]), .inl (false, 170, fun _ => 0), .inl (false, 340, fun _ => 0), .inl (true, 2, fun _ => 0), .inl (false, 3, fun _ => 0), .inl (false, 6, fun _ => 0), .inl (false, 6, fun _ => 0), .inl (true, 48, fun _ => 0), .inl (true, 48, fun _ => 0), .inl (false, 36, fun _ => 0)]) (Nat.le_of_ble_eq_true rfl) rfl) ?_
  replace hg : gl (pre ++ [.inr (12, [.ref (pre.length + 1), .ref (pre.length + 2), .ref (pre.length + 3), .ref (pre.length + 4), .long 0, .long 1, .ref (pre.length + 5), .ref (pre.length + 6), .int 0, .ref (pre.length + 7), .ref (pre.length + 8), .ref (pre.length + 9), .null, .null, .null, .int 0, .int 0, .int 0, .int 0, .int 0, .null, .null]), .inl (false, 170, fun _ => 0), .inl (false, 340, fun _ => 0), .inl (true, 2, fun _ => 0), .inl (false, 3, fun _ => 0), .inl (false, 6, fun _ => 0), .inl (false, 6, fun _ => 0), .inl (true, 48, fun _ => 0), .inl (true, 48, fun _ => 0), .inl (false, 36, fun _ => 0)]) := gl_put (fk := 11) (v := .ref (pre.length + 9)) hg rfl (Nat.add_lt_add_left (Nat.le_of_ble_eq_true rfl) _) rfl
  refine r_aload_n dX12_init_81 rfl ?_
  refine r_bipush (v := 64) dX12_init_82 rfl ?_
  refine r_newa (b := true) (len := 64) dX12_init_84 rfl w_162 (by decide) (by rfl) (by decide) (gl_s (c := 10) hg rfl) (gl_L (r := pre.length) (c := 10) (by decide)) (gl_1 (r := pre.length) (c := 10) (by decide)) (Nat.le_of_ble_eq_true rfl) (Nat.le_of_ble_eq_true rfl) ?_
  rw [ls_push (pre := pre) (mid := [.inr (12, [.ref (pre.length + 1), .ref (pre.length + 2), .ref (pre.length + 3), .ref (pre.length + 4), .long 0, .long 1, .ref (pre.length + 5), .ref (pre.length + 6), .int 0, .ref (pre.length + 7), .ref (pre.length + 8), .ref (pre.length + 9), .null, .null, .null, .int 0, .int 0, .int 0, .int 0, .int 0, .null, .null]), .inl (false, 170, fun _ => 0), .inl (false, 340, fun _ => 0), .inl (true, 2, fun _ => 0), .inl (false, 3, fun _ => 0), .inl (false, 6, fun _ => 0), .inl (false, 6, fun _ => 0), .inl (true, 48, fun _ => 0), .inl (true, 48, fun _ => 0), .inl (false, 36, fun _ => 0)]) (c := 10) (o := .inl (true, 64, fun _ => 0)) (mid' := [.inr (12, [.ref (pre.length + 1), .ref (pre.length + 2), .ref (pre.length + 3), .ref (pre.length + 4), .long 0, .long 1, .ref (pre.length + 5), .ref (pre.length + 6), .int 0, .ref (pre.length + 7), .ref (pre.length + 8), .ref (pre.length + 9), .null, .null, .null, .int 0, .int 0, .int 0, .int 0, .int 0, .null, .null]), .inl (false, 170, fun _ => 0), .inl (false, 340, fun _ => 0), .inl (true, 2, fun _ => 0), .inl (false, 3, fun _ => 0), .inl (false, 6, fun _ => 0), .inl (false, 6, fun _ => 0), .inl (true, 48, fun _ => 0), .inl (true, 48, fun _ => 0), .inl (false, 36, fun _ => 0), .inl (true, 64, fun _ => 0)]) rfl rfl]
  replace hg : gl (pre ++ [.inr (12, [.ref (pre.length + 1), .ref (pre.length + 2), .ref (pre.length + 3), .ref (pre.length + 4), .long 0, .long 1, .ref (pre.length + 5), .ref (pre.length + 6), .int 0, .ref (pre.length + 7), .ref (pre.length + 8), .ref (pre.length + 9), .null, .null, .null, .int 0, .int 0, .int 0, .int 0, .int 0, .null, .null]), .inl (false, 170, fun _ => 0), .inl (false, 340, fun _ => 0), .inl (true, 2, fun _ => 0), .inl (false, 3, fun _ => 0), .inl (false, 6, fun _ => 0), .inl (false, 6, fun _ => 0), .inl (true, 48, fun _ => 0), .inl (true, 48, fun _ => 0), .inl (false, 36, fun _ => 0), .inl (true, 64, fun _ => 0)]) := gl_push hg rfl trivial
  refine r_putF dX12_init_86 f_X12_42 rfl (ls_at (j := 0) rfl) (Nat.le_of_ble_eq_true rfl) rfl ?_
  refine Rn_S (ls_set (mid := [.inr (12, [.ref (pre.length + 1), .ref (pre.length + 2), .ref (pre.length + 3), .ref (pre.length + 4), .long 0, .long 1, .ref (pre.length + 5), .ref (pre.length + 6), .int 0, .ref (pre.length + 7), .ref (pre.length + 8), .ref (pre.length + 9), .null, .null, .null, .int 0, .int 0, .int 0, .int 0, .int 0, .null, .null]), .inl (false, 170, fun _ => 0), .inl (false, 340, fun _ => 0), .inl (true, 2, fun _ => 0), .inl (false, 3, fun _ => 0), .inl (false, 6, fun _ => 0), .inl (false, 6, fun _ => 0), .inl (true, 48, fun _ => 0), .inl (true, 48, fun _ => 0), .inl (false, 36, fun _ => 0), .inl (true, 64, fun _ => 0)]) (mid' := [.inr (12, [.ref (pre.length + 1), .ref (pre.length + 2), .ref (pre.length + 3), .ref (pre.length + 4), .long 0, .long 1, .ref (pre.length + 5), .ref (pre.length + 6), .int 0, .ref (pre.length + 7), .ref (pre.length + 8), .ref (pre.length + 9), .ref (pre.length + 10), .null, .null, .int 0, .int 0, .int 0, .int 0, .int 0, .null, .null]), .inl (false, 170, fun _ => 0), .inl (false, 340, fun _ => 0), .inl (true, 2, fun _ => 0), .inl (false, 3, fun _ => 0), .inl (false, 6, fun _ => 0), .inl (false, 6, fun _ => 0), .inl (true, 48, fun _ => 0), .inl (true, 48, fun _ => 0), .inl (false, 36, fun _ => 0), .inl (true, 64, fun _ => 0)]) (Nat.le_of_ble_eq_true rfl) rfl) ?_
  replace hg : gl (pre ++ [.inr (12, [.ref (pre.length + 1), .ref (pre.length + 2), .ref (pre.length + 3), .ref (pre.length + 4), .long 0, .long 1, .ref (pre.length + 5), .ref (pre.length + 6), .int 0, .ref (pre.length + 7), .ref (pre.length + 8), .ref (pre.length + 9), .ref (pre.length + 10), .null, .null, .int 0, .int 0, .int 0, .int 0, .int 0, .null, .null]), .inl (false, 170, fun _ => 0), .inl (false, 340, fun _ => 0), .inl (true, 2, fun _ => 0), .inl (false, 3, fun _ => 0), .inl (false, 6, fun _ => 0), .inl (false, 6, fun _ => 0), .inl (true, 48, fun _ => 0), .inl (true, 48, fun _ => 0), .inl (false, 36, fun _ => 0), .inl (true, 64, fun _ => 0)]) := gl_put (fk := 12) (v := .ref (pre.length + 10)) hg rfl (Nat.add_lt_add_left (Nat.le_of_ble_eq_true rfl) _) rfl
  refine r_aload_n dX12_init_89 rfl ?_
  refine r_bipush (v := 10) dX12_init_90 rfl ?_
  refine r_newa (b := false) (len := 10) dX12_init_92 rfl w_161 (by decide) (by rfl) (by decide) (gl_s (c := 11) hg rfl) (gl_L (r := pre.length) (c := 11) (by decide)) (gl_1 (r := pre.length) (c := 11) (by decide)) (Nat.le_of_ble_eq_true rfl) (Nat.le_of_ble_eq_true rfl) ?_
  rw [ls_push (pre := pre) (mid := [.inr (12, [.ref (pre.length + 1), .ref (pre.length + 2), .ref (pre.length + 3), .ref (pre.length + 4), .long 0, .long 1, .ref (pre.length + 5), .ref (pre.length + 6), .int 0, .ref (pre.length + 7), .ref (pre.length + 8), .ref (pre.length + 9), .ref (pre.length + 10), .null, .null, .int 0, .int 0, .int 0, .int 0, .int 0, .null, .null]), .inl (false, 170, fun _ => 0), .inl (false, 340, fun _ => 0), .inl (true, 2, fun _ => 0), .inl (false, 3, fun _ => 0), .inl (false, 6, fun _ => 0), .inl (false, 6, fun _ => 0), .inl (true, 48, fun _ => 0), .inl (true, 48, fun _ => 0), .inl (false, 36, fun _ => 0), .inl (true, 64, fun _ => 0)]) (c := 11) (o := .inl (false, 10, fun _ => 0)) (mid' := [.inr (12, [.ref (pre.length + 1), .ref (pre.length + 2), .ref (pre.length + 3), .ref (pre.length + 4), .long 0, .long 1, .ref (pre.length + 5), .ref (pre.length + 6), .int 0, .ref (pre.length + 7), .ref (pre.length + 8), .ref (pre.length + 9), .ref (pre.length + 10), .null, .null, .int 0, .int 0, .int 0, .int 0, .int 0, .null, .null]), .inl (false, 170, fun _ => 0), .inl (false, 340, fun _ => 0), .inl (true, 2, fun _ => 0), .inl (false, 3, fun _ => 0), .inl (false, 6, fun _ => 0), .inl (false, 6, fun _ => 0), .inl (true, 48, fun _ => 0), .inl (true, 48, fun _ => 0), .inl (false, 36, fun _ => 0), .inl (true, 64, fun _ => 0), .inl (false, 10, fun _ => 0)]) rfl rfl]
  replace hg : gl (pre ++ [.inr (12, [.ref (pre.length + 1), .ref (pre.length + 2), .ref (pre.length + 3), .ref (pre.length + 4), .long 0, .long 1, .ref (pre.length + 5), .ref (pre.length + 6), .int 0, .ref (pre.length + 7), .ref (pre.length + 8), .ref (pre.length + 9), .ref (pre.length + 10), .null, .null, .int 0, .int 0, .int 0, .int 0, .int 0, .null, .null]), .inl (false, 170, fun _ => 0), .inl (false, 340, fun _ => 0), .inl (true, 2, fun _ => 0), .inl (false, 3, fun _ => 0), .inl (false, 6, fun _ => 0), .inl (false, 6, fun _ => 0), .inl (true, 48, fun _ => 0), .inl (true, 48, fun _ => 0), .inl (false, 36, fun _ => 0), .inl (true, 64, fun _ => 0), .inl (false, 10, fun _ => 0)]) := gl_push hg rfl trivial
  refine r_putF dX12_init_94 f_X12_45 rfl (ls_at (j := 0) rfl) (Nat.le_of_ble_eq_true rfl) rfl ?_
  refine Rn_S (ls_set (mid := [.inr (12, [.ref (pre.length + 1), .ref (pre.length + 2), .ref (pre.length + 3), .ref (pre.length + 4), .long 0, .long 1, .ref (pre.length + 5), .ref (pre.length + 6), .int 0, .ref (pre.length + 7), .ref (pre.length + 8), .ref (pre.length + 9), .ref (pre.length + 10), .null, .null, .int 0, .int 0, .int 0, .int 0, .int 0, .null, .null]), .inl (false, 170, fun _ => 0), .inl (false, 340, fun _ => 0), .inl (true, 2, fun _ => 0), .inl (false, 3, fun _ => 0), .inl (false, 6, fun _ => 0), .inl (false, 6, fun _ => 0), .inl (true, 48, fun _ => 0), .inl (true, 48, fun _ => 0), .inl (false, 36, fun _ => 0), .inl (true, 64, fun _ => 0), .inl (false, 10, fun _ => 0)]) (mid' := [.inr (12, [.ref (pre.length + 1), .ref (pre.length + 2), .ref (pre.length + 3), .ref (pre.length + 4), .long 0, .long 1, .ref (pre.length + 5), .ref (pre.length + 6), .int 0, .ref (pre.length + 7), .ref (pre.length + 8), .ref (pre.length + 9), .ref (pre.length + 10), .ref (pre.length + 11), .null, .int 0, .int 0, .int 0, .int 0, .int 0, .null, .null]), .inl (false, 170, fun _ => 0), .inl (false, 340, fun _ => 0), .inl (true, 2, fun _ => 0), .inl (false, 3, fun _ => 0), .inl (false, 6, fun _ => 0), .inl (false, 6, fun _ => 0), .inl (true, 48, fun _ => 0), .inl (true, 48, fun _ => 0), .inl (false, 36, fun _ => 0), .inl (true, 64, fun _ => 0), .inl (false, 10, fun _ => 0)]) (Nat.le_of_ble_eq_true rfl) rfl) ?_
  replace hg : gl (pre ++ [.inr (12, [.ref (pre.length + 1), .ref (pre.length + 2), .ref (pre.length + 3), .ref (pre.length + 4), .long 0, .long 1, .ref (pre.length + 5), .ref (pre.length + 6), .int 0, .ref (pre.length + 7), .ref (pre.length + 8), .ref (pre.length + 9), .ref (pre.length + 10), .ref (pre.length + 11), .null, .int 0, .int 0, .int 0, .int 0, .int 0, .null, .null]), .inl (false, 170, fun _ => 0), .inl (false, 340, fun _ => 0), .inl (true, 2, fun _ => 0), .inl (false, 3, fun _ => 0), .inl (false, 6, fun _ => 0), .inl (false, 6, fun _ => 0), .inl (true, 48, fun _ => 0), .inl (true, 48, fun _ => 0), .inl (false, 36, fun _ => 0), .inl (true, 64, fun _ => 0), .inl (false, 10, fun _ => 0)]) := gl_put (fk := 13) (v := .ref (pre.length + 11)) hg rfl (Nat.add_lt_add_left (Nat.le_of_ble_eq_true rfl) _) rfl
  refine r_aload_n dX12_init_97 rfl ?_
  refine r_sipush (v := 150) dX12_init_98 rfl ?_
  refine r_newa (b := false) (len := 150) dX12_init_101 rfl w_161 (by decide) (by rfl) (by decide) (gl_s (c := 12) hg rfl) (gl_L (r := pre.length) (c := 12) (by decide)) (gl_1 (r := pre.length) (c := 12) (by decide)) (Nat.le_of_ble_eq_true rfl) (Nat.le_of_ble_eq_true rfl) ?_
  rw [ls_push (pre := pre) (mid := [.inr (12, [.ref (pre.length + 1), .ref (pre.length + 2), .ref (pre.length + 3), .ref (pre.length + 4), .long 0, .long 1, .ref (pre.length + 5), .ref (pre.length + 6), .int 0, .ref (pre.length + 7), .ref (pre.length + 8), .ref (pre.length + 9), .ref (pre.length + 10), .ref (pre.length + 11), .null, .int 0, .int 0, .int 0, .int 0, .int 0, .null, .null]), .inl (false, 170, fun _ => 0), .inl (false, 340, fun _ => 0), .inl (true, 2, fun _ => 0), .inl (false, 3, fun _ => 0), .inl (false, 6, fun _ => 0), .inl (false, 6, fun _ => 0), .inl (true, 48, fun _ => 0), .inl (true, 48, fun _ => 0), .inl (false, 36, fun _ => 0), .inl (true, 64, fun _ => 0), .inl (false, 10, fun _ => 0)]) (c := 12) (o := .inl (false, 150, fun _ => 0)) (mid' := [.inr (12, [.ref (pre.length + 1), .ref (pre.length + 2), .ref (pre.length + 3), .ref (pre.length + 4), .long 0, .long 1, .ref (pre.length + 5), .ref (pre.length + 6), .int 0, .ref (pre.length + 7), .ref (pre.length + 8), .ref (pre.length + 9), .ref (pre.length + 10), .ref (pre.length + 11), .null, .int 0, .int 0, .int 0, .int 0, .int 0, .null, .null]), .inl (false, 170, fun _ => 0), .inl (false, 340, fun _ => 0), .inl (true, 2, fun _ => 0), .inl (false, 3, fun _ => 0), .inl (false, 6, fun _ => 0), .inl (false, 6, fun _ => 0), .inl (true, 48, fun _ => 0), .inl (true, 48, fun _ => 0), .inl (false, 36, fun _ => 0), .inl (true, 64, fun _ => 0), .inl (false, 10, fun _ => 0), .inl (false, 150, fun _ => 0)]) rfl rfl]
  replace hg : gl (pre ++ [.inr (12, [.ref (pre.length + 1), .ref (pre.length + 2), .ref (pre.length + 3), .ref (pre.length + 4), .long 0, .long 1, .ref (pre.length + 5), .ref (pre.length + 6), .int 0, .ref (pre.length + 7), .ref (pre.length + 8), .ref (pre.length + 9), .ref (pre.length + 10), .ref (pre.length + 11), .null, .int 0, .int 0, .int 0, .int 0, .int 0, .null, .null]), .inl (false, 170, fun _ => 0), .inl (false, 340, fun _ => 0), .inl (true, 2, fun _ => 0), .inl (false, 3, fun _ => 0), .inl (false, 6, fun _ => 0), .inl (false, 6, fun _ => 0), .inl (true, 48, fun _ => 0), .inl (true, 48, fun _ => 0), .inl (false, 36, fun _ => 0), .inl (true, 64, fun _ => 0), .inl (false, 10, fun _ => 0), .inl (false, 150, fun _ => 0)]) := gl_push hg rfl trivial
  refine r_putF dX12_init_103 f_X12_48 rfl (ls_at (j := 0) rfl) (Nat.le_of_ble_eq_true rfl) rfl ?_
  refine Rn_S (ls_set (mid := [.inr (12, [.ref (pre.length + 1), .ref (pre.length + 2), .ref (pre.length + 3), .ref (pre.length + 4), .long 0, .long 1, .ref (pre.length + 5), .ref (pre.length + 6), .int 0, .ref (pre.length + 7), .ref (pre.length + 8), .ref (pre.length + 9), .ref (pre.length + 10), .ref (pre.length + 11), .null, .int 0, .int 0, .int 0, .int 0, .int 0, .null, .null]), .inl (false, 170, fun _ => 0), .inl (false, 340, fun _ => 0), .inl (true, 2, fun _ => 0), .inl (false, 3, fun _ => 0), .inl (false, 6, fun _ => 0), .inl (false, 6, fun _ => 0), .inl (true, 48, fun _ => 0), .inl (true, 48, fun _ => 0), .inl (false, 36, fun _ => 0), .inl (true, 64, fun _ => 0), .inl (false, 10, fun _ => 0), .inl (false, 150, fun _ => 0)]) (mid' := [.inr (12, [.ref (pre.length + 1), .ref (pre.length + 2), .ref (pre.length + 3), .ref (pre.length + 4), .long 0, .long 1, .ref (pre.length + 5), .ref (pre.length + 6), .int 0, .ref (pre.length + 7), .ref (pre.length + 8), .ref (pre.length + 9), .ref (pre.length + 10), .ref (pre.length + 11), .ref (pre.length + 12), .int 0, .int 0, .int 0, .int 0, .int 0, .null, .null]), .inl (false, 170, fun _ => 0), .inl (false, 340, fun _ => 0), .inl (true, 2, fun _ => 0), .inl (false, 3, fun _ => 0), .inl (false, 6, fun _ => 0), .inl (false, 6, fun _ => 0), .inl (true, 48, fun _ => 0), .inl (true, 48, fun _ => 0), .inl (false, 36, fun _ => 0), .inl (true, 64, fun _ => 0), .inl (false, 10, fun _ => 0), .inl (false, 150, fun _ => 0)]) (Nat.le_of_ble_eq_true rfl) rfl) ?_
  replace hg : gl (pre ++ [.inr (12, [.ref (pre.length + 1), .ref (pre.length + 2), .ref (pre.length + 3), .ref (pre.length + 4), .long 0, .long 1, .ref (pre.length + 5), .ref (pre.length + 6), .int 0, .ref (pre.length + 7), .ref (pre.length + 8), .ref (pre.length + 9), .ref (pre.length + 10), .ref (pre.length + 11), .ref (pre.length + 12), .int 0, .int 0, .int 0, .int 0, .int 0, .null, .null]), .inl (false, 170, fun _ => 0), .inl (false, 340, fun _ => 0), .inl (true, 2, fun _ => 0), .inl (false, 3, fun _ => 0), .inl (false, 6, fun _ => 0), .inl (false, 6, fun _ => 0), .inl (true, 48, fun _ => 0), .inl (true, 48, fun _ => 0), .inl (false, 36, fun _ => 0), .inl (true, 64, fun _ => 0), .inl (false, 10, fun _ => 0), .inl (false, 150, fun _ => 0)]) := gl_put (fk := 14) (v := .ref (pre.length + 12)) hg rfl (Nat.add_lt_add_left (Nat.le_of_ble_eq_true rfl) _) rfl
  refine r_aload_n dX12_init_106 rfl ?_
  refine r_bipush (v := 74) dX12_init_107 rfl ?_
  refine r_newa (b := false) (len := 74) dX12_init_109 rfl w_161 (by decide) (by rfl) (by decide) (gl_s (c := 13) hg rfl) (gl_L (r := pre.length) (c := 13) (by decide)) (gl_1 (r := pre.length) (c := 13) (by decide)) (Nat.le_of_ble_eq_true rfl) (Nat.le_of_ble_eq_true rfl) ?_
  rw [ls_push (pre := pre) (mid := [.inr (12, [.ref (pre.length + 1), .ref (pre.length + 2), .ref (pre.length + 3), .ref (pre.length + 4), .long 0, .long 1, .ref (pre.length + 5), .ref (pre.length + 6), .int 0, .ref (pre.length + 7), .ref (pre.length + 8), .ref (pre.length + 9), .ref (pre.length + 10), .ref (pre.length + 11), .ref (pre.length + 12), .int 0, .int 0, .int 0, .int 0, .int 0, .null, .null]), .inl (false, 170, fun _ => 0), .inl (false, 340, fun _ => 0), .inl (true, 2, fun _ => 0), .inl (false, 3, fun _ => 0), .inl (false, 6, fun _ => 0), .inl (false, 6, fun _ => 0), .inl (true, 48, fun _ => 0), .inl (true, 48, fun _ => 0), .inl (false, 36, fun _ => 0), .inl (true, 64, fun _ => 0), .inl (false, 10, fun _ => 0), .inl (false, 150, fun _ => 0)]) (c := 13) (o := .inl (false, 74, fun _ => 0)) (mid' := [.inr (12, [.ref (pre.length + 1), .ref (pre.length + 2), .ref (pre.length + 3), .ref (pre.length + 4), .long 0, .long 1, .ref (pre.length + 5), .ref (pre.length + 6), .int 0, .ref (pre.length + 7), .ref (pre.length + 8), .ref (pre.length + 9), .ref (pre.length + 10), .ref (pre.length + 11), .ref (pre.length + 12), .int 0, .int 0, .int 0, .int 0, .int 0, .null, .null]), .inl (false, 170, fun _ => 0), .inl (false, 340, fun _ => 0), .inl (true, 2, fun _ => 0), .inl (false, 3, fun _ => 0), .inl (false, 6, fun _ => 0), .inl (false, 6, fun _ => 0), .inl (true, 48, fun _ => 0), .inl (true, 48, fun _ => 0), .inl (false, 36, fun _ => 0), .inl (true, 64, fun _ => 0), .inl (false, 10, fun _ => 0), .inl (false, 150, fun _ => 0), .inl (false, 74, fun _ => 0)]) rfl rfl]
  replace hg : gl (pre ++ [.inr (12, [.ref (pre.length + 1), .ref (pre.length + 2), .ref (pre.length + 3), .ref (pre.length + 4), .long 0, .long 1, .ref (pre.length + 5), .ref (pre.length + 6), .int 0, .ref (pre.length + 7), .ref (pre.length + 8), .ref (pre.length + 9), .ref (pre.length + 10), .ref (pre.length + 11), .ref (pre.length + 12), .int 0, .int 0, .int 0, .int 0, .int 0, .null, .null]), .inl (false, 170, fun _ => 0), .inl (false, 340, fun _ => 0), .inl (true, 2, fun _ => 0), .inl (false, 3, fun _ => 0), .inl (false, 6, fun _ => 0), .inl (false, 6, fun _ => 0), .inl (true, 48, fun _ => 0), .inl (true, 48, fun _ => 0), .inl (false, 36, fun _ => 0), .inl (true, 64, fun _ => 0), .inl (false, 10, fun _ => 0), .inl (false, 150, fun _ => 0), .inl (false, 74, fun _ => 0)]) := gl_push hg rfl trivial
  refine r_putF dX12_init_111 f_X12_51 rfl (ls_at (j := 0) rfl) (Nat.le_of_ble_eq_true rfl) rfl ?_
  refine Rn_S (ls_set (mid := [.inr (12, [.ref (pre.length + 1), .ref (pre.length + 2), .ref (pre.length + 3), .ref (pre.length + 4), .long 0, .long 1, .ref (pre.length + 5), .ref (pre.length + 6), .int 0, .ref (pre.length + 7), .ref (pre.length + 8), .ref (pre.length + 9), .ref (pre.length + 10), .ref (pre.length + 11), .ref (pre.length + 12), .int 0, .int 0, .int 0, .int 0, .int 0, .null, .null]), .inl (false, 170, fun _ => 0), .inl (false, 340, fun _ => 0), .inl (true, 2, fun _ => 0), .inl (false, 3, fun _ => 0), .inl (false, 6, fun _ => 0), .inl (false, 6, fun _ => 0), .inl (true, 48, fun _ => 0), .inl (true, 48, fun _ => 0), .inl (false, 36, fun _ => 0), .inl (true, 64, fun _ => 0), .inl (false, 10, fun _ => 0), .inl (false, 150, fun _ => 0), .inl (false, 74, fun _ => 0)]) (mid' := [.inr (12, [.ref (pre.length + 1), .ref (pre.length + 2), .ref (pre.length + 3), .ref (pre.length + 4), .long 0, .long 1, .ref (pre.length + 5), .ref (pre.length + 6), .int 0, .ref (pre.length + 7), .ref (pre.length + 8), .ref (pre.length + 9), .ref (pre.length + 10), .ref (pre.length + 11), .ref (pre.length + 12), .int 0, .int 0, .int 0, .int 0, .int 0, .ref (pre.length + 13), .null]), .inl (false, 170, fun _ => 0), .inl (false, 340, fun _ => 0), .inl (true, 2, fun _ => 0), .inl (false, 3, fun _ => 0), .inl (false, 6, fun _ => 0), .inl (false, 6, fun _ => 0), .inl (true, 48, fun _ => 0), .inl (true, 48, fun _ => 0), .inl (false, 36, fun _ => 0), .inl (true, 64, fun _ => 0), .inl (false, 10, fun _ => 0), .inl (false, 150, fun _ => 0), .inl (false, 74, fun _ => 0)]) (Nat.le_of_ble_eq_true rfl) rfl) ?_
  replace hg : gl (pre ++ [.inr (12, [.ref (pre.length + 1), .ref (pre.length + 2), .ref (pre.length + 3), .ref (pre.length + 4), .long 0, .long 1, .ref (pre.length + 5), .ref (pre.length + 6), .int 0, .ref (pre.length + 7), .ref (pre.length + 8), .ref (pre.length + 9), .ref (pre.length + 10), .ref (pre.length + 11), .ref (pre.length + 12), .int 0, .int 0, .int 0, .int 0, .int 0, .ref (pre.length + 13), .null]), .inl (false, 170, fun _ => 0), .inl (false, 340, fun _ => 0), .inl (true, 2, fun _ => 0), .inl (false, 3, fun _ => 0), .inl (false, 6, fun _ => 0), .inl (false, 6, fun _ => 0), .inl (true, 48, fun _ => 0), .inl (true, 48, fun _ => 0), .inl (false, 36, fun _ => 0), .inl (true, 64, fun _ => 0), .inl (false, 10, fun _ => 0), .inl (false, 150, fun _ => 0), .inl (false, 74, fun _ => 0)]) := gl_put (fk := 20) (v := .ref (pre.length + 13)) hg rfl (Nat.add_lt_add_left (Nat.le_of_ble_eq_true rfl) _) rfl
  refine r_aload_n dX12_init_114 rfl ?_
  refine r_iconst dX12_init_115 ?_
  refine r_newa (b := false) (len := 5) dX12_init_116 rfl w_161 (by decide) (by rfl) (by decide) (gl_s (c := 14) hg rfl) (gl_L (r := pre.length) (c := 14) (by decide)) (gl_1 (r := pre.length) (c := 14) (by decide)) (Nat.le_of_ble_eq_true rfl) (Nat.le_of_ble_eq_true rfl) ?_
  rw [ls_push (pre := pre) (mid := [.inr (12, [.ref (pre.length + 1), .ref (pre.length + 2), .ref (pre.length + 3), .ref (pre.length + 4), .long 0, .long 1, .ref (pre.length + 5), .ref (pre.length + 6), .int 0, .ref (pre.length + 7), .ref (pre.length + 8), .ref (pre.length + 9), .ref (pre.length + 10), .ref (pre.length + 11), .ref (pre.length + 12), .int 0, .int 0, .int 0, .int 0, .int 0, .ref (pre.length + 13), .null]), .inl (false, 170, fun _ => 0), .inl (false, 340, fun _ => 0), .inl (true, 2, fun _ => 0), .inl (false, 3, fun _ => 0), .inl (false, 6, fun _ => 0), .inl (false, 6, fun _ => 0), .inl (true, 48, fun _ => 0), .inl (true, 48, fun _ => 0), .inl (false, 36, fun _ => 0), .inl (true, 64, fun _ => 0), .inl (false, 10, fun _ => 0), .inl (false, 150, fun _ => 0), .inl (false, 74, fun _ => 0)]) (c := 14) (o := .inl (false, 5, fun _ => 0)) (mid' := [.inr (12, [.ref (pre.length + 1), .ref (pre.length + 2), .ref (pre.length + 3), .ref (pre.length + 4), .long 0, .long 1, .ref (pre.length + 5), .ref (pre.length + 6), .int 0, .ref (pre.length + 7), .ref (pre.length + 8), .ref (pre.length + 9), .ref (pre.length + 10), .ref (pre.length + 11), .ref (pre.length + 12), .int 0, .int 0, .int 0, .int 0, .int 0, .ref (pre.length + 13), .null]), .inl (false, 170, fun _ => 0), .inl (false, 340, fun _ => 0), .inl (true, 2, fun _ => 0), .inl (false, 3, fun _ => 0), .inl (false, 6, fun _ => 0), .inl (false, 6, fun _ => 0), .inl (true, 48, fun _ => 0), .inl (true, 48, fun _ => 0), .inl (false, 36, fun _ => 0), .inl (true, 64, fun _ => 0), .inl (false, 10, fun _ => 0), .inl (false, 150, fun _ => 0), .inl (false, 74, fun _ => 0), .inl (false, 5, fun _ => 0)]) rfl rfl]
  replace hg : gl (pre ++ [.inr (12, [.ref (pre.length + 1), .ref (pre.length + 2), .ref (pre.length + 3), .ref (pre.length + 4), .long 0, .long 1, .ref (pre.length + 5), .ref (pre.length + 6), .int 0, .ref (pre.length + 7), .ref (pre.length + 8), .ref (pre.length + 9), .ref (pre.length + 10), .ref (pre.length + 11), .ref (pre.length + 12), .int 0, .int 0, .int 0, .int 0, .int 0, .ref (pre.length + 13), .null]), .inl (false, 170, fun _ => 0), .inl (false, 340, fun _ => 0), .inl (true, 2, fun _ => 0), .inl (false, 3, fun _ => 0), .inl (false, 6, fun _ => 0), .inl (false, 6, fun _ => 0), .inl (true, 48, fun _ => 0), .inl (true, 48, fun _ => 0), .inl (false, 36, fun _ => 0), .inl (true, 64, fun _ => 0), .inl (false, 10, fun _ => 0), .inl (false, 150, fun _ => 0), .inl (false, 74, fun _ => 0), .inl (false, 5, fun _ => 0)]) := gl_push hg rfl trivial
  refine r_putF dX12_init_118 f_X12_54 rfl (ls_at (j := 0) rfl) (Nat.le_of_ble_eq_true rfl) rfl ?_
  refine Rn_S (ls_set (mid := [.inr (12, [.ref (pre.length + 1), .ref (pre.length + 2), .ref (pre.length + 3), .ref (pre.length + 4), .long 0, .long 1, .ref (pre.length + 5), .ref (pre.length + 6), .int 0, .ref (pre.length + 7), .ref (pre.length + 8), .ref (pre.length + 9), .ref (pre.length + 10), .ref (pre.length + 11), .ref (pre.length + 12), .int 0, .int 0, .int 0, .int 0, .int 0, .ref (pre.length + 13), .null]), .inl (false, 170, fun _ => 0), .inl (false, 340, fun _ => 0), .inl (true, 2, fun _ => 0), .inl (false, 3, fun _ => 0), .inl (false, 6, fun _ => 0), .inl (false, 6, fun _ => 0), .inl (true, 48, fun _ => 0), .inl (true, 48, fun _ => 0), .inl (false, 36, fun _ => 0), .inl (true, 64, fun _ => 0), .inl (false, 10, fun _ => 0), .inl (false, 150, fun _ => 0), .inl (false, 74, fun _ => 0), .inl (false, 5, fun _ => 0)]) (mid' := [.inr (12, [.ref (pre.length + 1), .ref (pre.length + 2), .ref (pre.length + 3), .ref (pre.length + 4), .long 0, .long 1, .ref (pre.length + 5), .ref (pre.length + 6), .int 0, .ref (pre.length + 7), .ref (pre.length + 8), .ref (pre.length + 9), .ref (pre.length + 10), .ref (pre.length + 11), .ref (pre.length + 12), .int 0, .int 0, .int 0, .int 0, .int 0, .ref (pre.length + 13), .ref (pre.length + 14)]), .inl (false, 170, fun _ => 0), .inl (false, 340, fun _ => 0), .inl (true, 2, fun _ => 0), .inl (false, 3, fun _ => 0), .inl (false, 6, fun _ => 0), .inl (false, 6, fun _ => 0), .inl (true, 48, fun _ => 0), .inl (true, 48, fun _ => 0), .inl (false, 36, fun _ => 0), .inl (true, 64, fun _ => 0), .inl (false, 10, fun _ => 0), .inl (false, 150, fun _ => 0), .inl (false, 74, fun _ => 0), .inl (false, 5, fun _ => 0)]) (Nat.le_of_ble_eq_true rfl) rfl) ?_
  replace hg : gl (pre ++ [.inr (12, [.ref (pre.length + 1), .ref (pre.length + 2), .ref (pre.length + 3), .ref (pre.length + 4), .long 0, .long 1, .ref (pre.length + 5), .ref (pre.length + 6), .int 0, .ref (pre.length + 7), .ref (pre.length + 8), .ref (pre.length + 9), .ref (pre.length + 10), .ref (pre.length + 11), .ref (pre.length + 12), .int 0, .int 0, .int 0, .int 0, .int 0, .ref (pre.length + 13), .ref (pre.length + 14)]), .inl (false, 170, fun _ => 0), .inl (false, 340, fun _ => 0), .inl (true, 2, fun _ => 0), .inl (false, 3, fun _ => 0), .inl (false, 6, fun _ => 0), .inl (false, 6, fun _ => 0), .inl (true, 48, fun _ => 0), .inl (true, 48, fun _ => 0), .inl (false, 36, fun _ => 0), .inl (true, 64, fun _ => 0), .inl (false, 10, fun _ => 0), .inl (false, 150, fun _ => 0), .inl (false, 74, fun _ => 0), .inl (false, 5, fun _ => 0)]) := gl_put (fk := 21) (v := .ref (pre.length + 14)) hg rfl (Nat.add_lt_add_left (Nat.le_of_ble_eq_true rfl) _) rfl
  exact hk
theorem c_X12 (hg : gl (clsC 0 ++ [.inr (12, [.null, .null, .null, .null, .long 0, .long 0, .null, .null, .int 0, .null, .null, .null, .null, .null, .null, .int 0, .int 0, .int 0, .int 0, .int 0, .null, .null])])) : Mt M_X12_init [.ref 86] 87 (ls (clsC 0 ++ [.inr (12, [.null, .null, .null, .null, .long 0, .long 0, .null, .null, .int 0, .null, .null, .null, .null, .null, .null, .int 0, .int 0, .int 0, .int 0, .int 0, .null, .null])])) none 101 (MM G0) := by
  obtain ⟨_, _, ⟨rfl, rfl⟩, hM⟩ := m_xBegin87 (G := Gp) (s := 10) (l := 0)
  refine Mt.of (L := [some (.ref 86)]) (plainFor_of_name pn_X12) (Nat.le_of_ble_eq_true rfl) rfl ?_
  refine c_X12a (pre := clsC 0) hg ?_
  have e : ls (clsC 0 ++ modC (clsC 0).length) = MM Gp := mm_all
  rw [e]
  show Rn M_X12_init 121 [some (.ref 86)] [] 101 (MM Gp) 14 962 none 101 (MM G0)
  refine r_aload_n dX12_init_121 rfl ?_
  refine r_getf dX12_init_122 f_X12_7 (MM_at (by decide)) (show (fsMod (Gp 86))[0]? = some (.ref 87) from rfl) ?_
  refine r_bipush (v := iI 10) dX12_init_125 rfl ?_
  refine r_iconst dX12_init_127 ?_
  refine r_callS (as := [.ref 87, .int (iI 10), .int (iI 0)]) dX12_init_128 s_X12_init_57 hM rfl rfl (Nat.le_of_ble_eq_true rfl) (Or.inl rfl) ⟨(Nat.le_of_ble_eq_true rfl), (Nat.le_of_ble_eq_true rfl)⟩ ?_
  exact r_ret dX12_init_131 rfl (Nat.le_of_ble_eq_true rfl) (Nat.le_of_ble_eq_true rfl)
/-! ===== the relation at the start ===== -/
theorem G0_e {a b : Nat} (h : a ≠ 87) : G0 a b = Gp a b := mBeg_ne h
def V0 : Mem := fun a b => if a = 0 ∧ b = 0 then 10 else 0
theorem V0_0 {a b : Nat} (h : ¬ (a = 0 ∧ b = 0)) : V0 a b = 0 := if_neg h
theorem V0_ok : Rok V0 := by
  have e : V0 0 0 = 10 := rfl
  refine ⟨?_, ?_, ?_, fun a b ha hb => V0_0 (fun q => ?_), ?_⟩
  · unfold Vok
    simp (disch := omega) only [e, V0_0]
    exact ⟨by decide, by decide, by decide, fun i => ⟨by decide, by decide, by decide, by decide, by decide, fun q => absurd q (by omega)⟩⟩
  · unfold Sok
    simp (disch := omega) only [V0_0]
    exact ⟨by decide, fun _ => by decide⟩
  · unfold Dok
    simp (disch := omega) only [V0_0]
    exact ⟨by decide, fun _ => by decide⟩
  · obtain ⟨rfl, rfl⟩ := q
    rcases hb with hb | hb
    · exact absurd hb (by decide)
    · exact hb.2.1 rfl
  · unfold Uk
    simp (disch := omega) only [V0_0]
    exact ⟨by decide, fun _ => by decide⟩
theorem Gp_0 : ∀ i, i < 101 → i ≠ 0 → i ≠ 1 → i ≠ 14 → i ≠ 27 → i ≠ 40 → i ≠ 86 → ∀ j, Gp i j = 0
  | 0, _, h0, h1, h2, h3, h4, h5 => absurd rfl h0
  | 1, _, h0, h1, h2, h3, h4, h5 => absurd rfl h1
  | 2, _, h0, h1, h2, h3, h4, h5 => fun _ => rfl
  | 3, _, h0, h1, h2, h3, h4, h5 => fun _ => rfl
  | 4, _, h0, h1, h2, h3, h4, h5 => fun _ => rfl
  | 5, _, h0, h1, h2, h3, h4, h5 => fun _ => rfl
  | 6, _, h0, h1, h2, h3, h4, h5 => fun _ => rfl
  | 7, _, h0, h1, h2, h3, h4, h5 => fun _ => rfl
  | 8, _, h0, h1, h2, h3, h4, h5 => fun _ => rfl
  | 9, _, h0, h1, h2, h3, h4, h5 => fun _ => rfl
  | 10, _, h0, h1, h2, h3, h4, h5 => fun _ => rfl
  | 11, _, h0, h1, h2, h3, h4, h5 => fun _ => rfl
  | 12, _, h0, h1, h2, h3, h4, h5 => fun _ => rfl
  | 13, _, h0, h1, h2, h3, h4, h5 => fun _ => rfl
  | 14, _, h0, h1, h2, h3, h4, h5 => absurd rfl h2
  | 15, _, h0, h1, h2, h3, h4, h5 => fun _ => rfl
  | 16, _, h0, h1, h2, h3, h4, h5 => fun _ => rfl
  | 17, _, h0, h1, h2, h3, h4, h5 => fun _ => rfl
  | 18, _, h0, h1, h2, h3, h4, h5 => fun _ => rfl
  | 19, _, h0, h1, h2, h3, h4, h5 => fun _ => rfl
  | 20, _, h0, h1, h2, h3, h4, h5 => fun _ => rfl
  | 21, _, h0, h1, h2, h3, h4, h5 => fun _ => rfl
  | 22, _, h0, h1, h2, h3, h4, h5 => fun _ => rfl
  | 23, _, h0, h1, h2, h3, h4, h5 => fun _ => rfl
  | 24, _, h0, h1, h2, h3, h4, h5 => fun _ => rfl
  | 25, _, h0, h1, h2, h3, h4, h5 => fun _ => rfl
  | 26, _, h0, h1, h2, h3, h4, h5 => fun _ => rfl
  | 27, _, h0, h1, h2, h3, h4, h5 => absurd rfl h3
  | 28, _, h0, h1, h2, h3, h4, h5 => fun _ => rfl
  | 29, _, h0, h1, h2, h3, h4, h5 => fun _ => rfl
  | 30, _, h0, h1, h2, h3, h4, h5 => fun _ => rfl
  | 31, _, h0, h1, h2, h3, h4, h5 => fun _ => rfl
  | 32, _, h0, h1, h2, h3, h4, h5 => fun _ => rfl
  | 33, _, h0, h1, h2, h3, h4, h5 => fun _ => rfl
  | 34, _, h0, h1, h2, h3, h4, h5 => fun _ => rfl
  | 35, _, h0, h1, h2, h3, h4, h5 => fun _ => rfl
  | 36, _, h0, h1, h2, h3, h4, h5 => fun _ => rfl
  | 37, _, h0, h1, h2, h3, h4, h5 => fun _ => rfl
  | 38, _, h0, h1, h2, h3, h4, h5 => fun _ => rfl
  | 39, _, h0, h1, h2, h3, h4, h5 => fun _ => rfl
  | 40, _, h0, h1, h2, h3, h4, h5 => absurd rfl h4
  | 41, _, h0, h1, h2, h3, h4, h5 => fun _ => rfl
  | 42, _, h0, h1, h2, h3, h4, h5 => fun _ => rfl
  | 43, _, h0, h1, h2, h3, h4, h5 => fun _ => rfl
  | 44, _, h0, h1, h2, h3, h4, h5 => fun _ => rfl
  | 45, _, h0, h1, h2, h3, h4, h5 => fun _ => rfl
  | 46, _, h0, h1, h2, h3, h4, h5 => fun _ => rfl
  | 47, _, h0, h1, h2, h3, h4, h5 => fun _ => rfl
  | 48, _, h0, h1, h2, h3, h4, h5 => fun _ => rfl
  | 49, _, h0, h1, h2, h3, h4, h5 => fun _ => rfl
  | 50, _, h0, h1, h2, h3, h4, h5 => fun _ => rfl
  | 51, _, h0, h1, h2, h3, h4, h5 => fun _ => rfl
  | 52, _, h0, h1, h2, h3, h4, h5 => fun _ => rfl
  | 53, _, h0, h1, h2, h3, h4, h5 => fun _ => rfl
  | 54, _, h0, h1, h2, h3, h4, h5 => fun _ => rfl
  | 55, _, h0, h1, h2, h3, h4, h5 => fun _ => rfl
  | 56, _, h0, h1, h2, h3, h4, h5 => fun _ => rfl
  | 57, _, h0, h1, h2, h3, h4, h5 => fun _ => rfl
  | 58, _, h0, h1, h2, h3, h4, h5 => fun _ => rfl
  | 59, _, h0, h1, h2, h3, h4, h5 => fun _ => rfl
  | 60, _, h0, h1, h2, h3, h4, h5 => fun _ => rfl
  | 61, _, h0, h1, h2, h3, h4, h5 => fun _ => rfl
  | 62, _, h0, h1, h2, h3, h4, h5 => fun _ => rfl
  | 63, _, h0, h1, h2, h3, h4, h5 => fun _ => rfl
  | 64, _, h0, h1, h2, h3, h4, h5 => fun _ => rfl
  | 65, _, h0, h1, h2, h3, h4, h5 => fun _ => rfl
  | 66, _, h0, h1, h2, h3, h4, h5 => fun _ => rfl
  | 67, _, h0, h1, h2, h3, h4, h5 => fun _ => rfl
  | 68, _, h0, h1, h2, h3, h4, h5 => fun _ => rfl
  | 69, _, h0, h1, h2, h3, h4, h5 => fun _ => rfl
  | 70, _, h0, h1, h2, h3, h4, h5 => fun _ => rfl
  | 71, _, h0, h1, h2, h3, h4, h5 => fun _ => rfl
  | 72, _, h0, h1, h2, h3, h4, h5 => fun _ => rfl
  | 73, _, h0, h1, h2, h3, h4, h5 => fun _ => rfl
  | 74, _, h0, h1, h2, h3, h4, h5 => fun _ => rfl
  | 75, _, h0, h1, h2, h3, h4, h5 => fun _ => rfl
  | 76, _, h0, h1, h2, h3, h4, h5 => fun _ => rfl
  | 77, _, h0, h1, h2, h3, h4, h5 => fun _ => rfl
  | 78, _, h0, h1, h2, h3, h4, h5 => fun _ => rfl
  | 79, _, h0, h1, h2, h3, h4, h5 => fun _ => rfl
  | 80, _, h0, h1, h2, h3, h4, h5 => fun _ => rfl
  | 81, _, h0, h1, h2, h3, h4, h5 => fun _ => rfl
  | 82, _, h0, h1, h2, h3, h4, h5 => fun _ => rfl
  | 83, _, h0, h1, h2, h3, h4, h5 => fun _ => rfl
  | 84, _, h0, h1, h2, h3, h4, h5 => fun _ => rfl
  | 85, _, h0, h1, h2, h3, h4, h5 => fun _ => rfl
  | 86, _, h0, h1, h2, h3, h4, h5 => absurd rfl h5
  | 87, _, h0, h1, h2, h3, h4, h5 => fun _ => rfl
  | 88, _, h0, h1, h2, h3, h4, h5 => fun _ => rfl
  | 89, _, h0, h1, h2, h3, h4, h5 => fun _ => rfl
  | 90, _, h0, h1, h2, h3, h4, h5 => fun _ => rfl
  | 91, _, h0, h1, h2, h3, h4, h5 => fun _ => rfl
  | 92, _, h0, h1, h2, h3, h4, h5 => fun _ => rfl
  | 93, _, h0, h1, h2, h3, h4, h5 => fun _ => rfl
  | 94, _, h0, h1, h2, h3, h4, h5 => fun _ => rfl
  | 95, _, h0, h1, h2, h3, h4, h5 => fun _ => rfl
  | 96, _, h0, h1, h2, h3, h4, h5 => fun _ => rfl
  | 97, _, h0, h1, h2, h3, h4, h5 => fun _ => rfl
  | 98, _, h0, h1, h2, h3, h4, h5 => fun _ => rfl
  | 99, _, h0, h1, h2, h3, h4, h5 => fun _ => rfl
  | 100, _, h0, h1, h2, h3, h4, h5 => fun _ => rfl
  | i + 101, h, _, _, _, _, _, _ => absurd h (by omega)
theorem V0_r {r : Nat} (hr : r = 1 ∨ r = 14 ∨ r = 27 ∨ r = 40) : Veq V0 (rv G0 r) := by
  intro a b ha
  show V0 a b = G0 (r + a) b
  rw [G0_e (by omega)]
  by_cases h : a = 0
  · subst h
    rcases hr with rfl | rfl | rfl | rfl
    all_goals (show V0 0 b = if b = 0 then 10 else 0; unfold V0; by_cases q : b = 0; (rw [if_pos ⟨rfl, q⟩, if_pos q]); (rw [if_neg (fun z => q z.2), if_neg q]))
  · rw [Gp_0 (r + a) (by omega) (by omega) (by omega) (by omega) (by omega) (by omega) (by omega)]
    exact V0_0 (fun q => h q.1)
theorem G0_0 {i : Nat} (hi : i < 101) (h87 : i ≠ 87) (h : i ≠ 0 ∧ i ≠ 1 ∧ i ≠ 14 ∧ i ≠ 27 ∧ i ≠ 40 ∧ i ≠ 86) (j : Nat) : G0 i j = 0 := (G0_e h87).trans (Gp_0 i hi h.1 h.2.1 h.2.2.1 h.2.2.2.1 h.2.2.2.2.1 h.2.2.2.2.2 j)
theorem qok_0 {P H : Nat → Int} (h1 : ∀ j, P j = 0) (h2 : ∀ j, H j = 0) : q_ok P H := fun j => by rw [h1, h2]; decide
/-- at the start both agree -/
theorem rel_0 : Rel G0 := by
  have z : ∀ i, i < 101 → i ≠ 87 → (i ≠ 0 ∧ i ≠ 1 ∧ i ≠ 14 ∧ i ≠ 27 ∧ i ≠ 40 ∧ i ≠ 86) → ∀ j, G0 i j = 0 := fun i a b c j => G0_0 a b c j
  have r : ∀ r, (r = 1 ∨ r = 14 ∨ r = 27 ∨ r = 40) → Rok (rv G0 r) := fun r h => V0_ok.c (V0_r h)
  have c : ∀ j, G0 0 j = if j = 11 then 1 else 0 := fun j => G0_e (by decide)
  have m : ∀ j, G0 86 j = if j = 5 then 1 else 0 := fun j => G0_e (by decide)
  have mv : MV (rv G0 1) (G0 87) := by
    refine (MV.beg (V := V0) (s := 10) (l := 0) ⟨rfl, rfl, rfl, rfl, rfl, rfl⟩ (fun y hy => mBeg_at (G := Gp) (a := 87) (s := 10) (l := 0) hy)).c V0_ok (V0_r (by omega)) (fun _ _ => rfl)
  refine ⟨⟨r 1 (by omega), r 27 (by omega), r 40 (by omega), ⟨?_, fun j => ?_⟩, ?_, ?_, ?_⟩, ⟨r 14 (by omega), ?_, ?_, ?_, fun j => ?_⟩, mv, ⟨⟨?_, ?_, fun j => ?_⟩, fun q => ?_, fun q => ?_⟩, ⟨?_, ?_, ?_⟩, ⟨?_, ?_⟩, ?_, fun j hj => ?_⟩
  · rw [z 53 (by decide) (by decide) (by decide)]; decide
  · rw [z 54 (by decide) (by decide) (by decide)]; decide
  · rw [c, c]; decide
  · rw [c]; decide
  · rw [c]; decide
  · exact qok_0 (z (55 + 7) (by decide) (by decide) (by decide)) (z (55 + 8) (by decide) (by decide) (by decide))
  · exact qok_0 (z (65 + 7) (by decide) (by decide) (by decide)) (z (65 + 8) (by decide) (by decide) (by decide))
  · exact qok_0 (z (76 + 7) (by decide) (by decide) (by decide)) (z (76 + 8) (by decide) (by decide) (by decide))
  · rw [z 74 (by decide) (by decide) (by decide)]; decide
  · rw [z 89 (by decide) (by decide) (by decide), c]; rfl
  · rw [z 89 (by decide) (by decide) (by decide), c]; rfl
  · exact Or.inl (z 89 (by decide) (by decide) (by decide) j)
  · rw [c] at q; exact absurd q (by decide)
  · rw [c] at q; exact absurd q (by decide)
  · rw [z 90 (by decide) (by decide) (by decide), c]; rfl
  · rw [z 90 (by decide) (by decide) (by decide), c]; rfl
  · rw [z 90 (by decide) (by decide) (by decide), c]; rfl
  · rw [m, c]; rfl
  · rw [m, c]; rfl
  · rw [m, z 53 (by decide) (by decide) (by decide)]; rfl
  · rw [z 98 (by decide) (by decide) (by decide), z 54 (by decide) (by decide) (by decide)]
