/-! words for the constructors -/
theorem wo_Bo : Cond.methodLink "WaveLedger$Book" 3 Lib.objectInit ∈ mw_G lw_tbl := mw_G_in 127 (by decide +kernel) rfl
theorem wo_Gr : Cond.methodLink "WaveLedger$Graph" 3 Lib.objectInit ∈ mw_G lw_tbl := mw_G_in 174 (by decide +kernel) rfl
theorem wo_Ma : Cond.methodLink "WaveLedger$Mail" 3 Lib.objectInit ∈ mw_G lw_tbl := mw_G_in 102 (by decide +kernel) rfl
theorem wo_No : Cond.methodLink "WaveLedger$Node" 3 Lib.objectInit ∈ mw_G lw_tbl := mw_G_in 121 (by decide +kernel) rfl
theorem wo_Tq : Cond.methodLink "WaveLedger$TransferQueue" 3 Lib.objectInit ∈ mw_G lw_tbl := mw_G_in 150 (by decide +kernel) rfl
theorem wo_Ve : Cond.methodLink "WaveLedger$Vertices" 3 Lib.objectInit ∈ mw_G lw_tbl := mw_G_in 70 (by decide +kernel) rfl
theorem wo_Vo : Cond.methodLink "WaveLedger$Votes" 3 Lib.objectInit ∈ mw_G lw_tbl := mw_G_in 164 (by decide +kernel) rfl
theorem wo_Wl : Cond.methodLink "WaveLedger" 3 Lib.objectInit ∈ mw_G lw_tbl := mw_G_in 59 (by decide +kernel) rfl
theorem wo_Mo : Cond.methodLink "WaveLedgerModel" 1 Lib.objectInit ∈ mw_G lw_tbl := mw_G_in 641 (by decide +kernel) rfl
theorem wo_inst : Cond.instanceMethod Lib.objectInit ∈ mw_G lw_tbl := mw_G_in 60 (by decide +kernel) rfl
set_option maxRecDepth 100000 in
theorem wo_code : Cond.code Lib.objectInit ⟨#[0xb1]⟩ 1 none ∈ mw_G lw_tbl := mw_G_in 61 (by rfl) rfl
theorem wa_int : Cond.arrayClass .int ∈ mw_G lw_tbl := mw_G_in 95 (by decide +kernel) rfl
theorem wa_long : Cond.arrayClass .long ∈ mw_G lw_tbl := mw_G_in 96 (by decide +kernel) rfl
theorem wa_boolean : Cond.arrayClass .boolean ∈ mw_G lw_tbl := mw_G_in 730 (by decide +kernel) rfl
theorem fo_Bo_9 : mw_FO "WaveLedger$Book" lw_tbl vCl 9 0 0 (.array .int) := ⟨T_Bo, 4, t_Bo, rfl, by decide, wu_Bo, rfl, mw_G_in 128 (by decide +kernel) rfl, t_Bo_ok, n_Bo, by decide +kernel⟩
theorem fo_Bo_15 : mw_FO "WaveLedger$Book" lw_tbl vCl 15 0 1 (.array .int) := ⟨T_Bo, 4, t_Bo, rfl, by decide, wu_Bo, rfl, mw_G_in 130 (by decide +kernel) rfl, t_Bo_ok, n_Bo, by decide +kernel⟩
theorem fo_Gr_9 : mw_FO "WaveLedger$Graph" lw_tbl vCl 9 1 1 (.array .int) := ⟨T_Gr, 5, t_Gr, rfl, by decide, wu_Gr, rfl, mw_G_in 176 (by decide +kernel) rfl, t_Gr_ok, n_Gr, by decide +kernel⟩
theorem fo_Gr_15 : mw_FO "WaveLedger$Graph" lw_tbl vCl 15 1 2 (.array .long) := ⟨T_Gr, 5, t_Gr, rfl, by decide, wu_Gr, rfl, mw_G_in 179 (by decide +kernel) rfl, t_Gr_ok, n_Gr, by decide +kernel⟩
theorem fo_Gr_19 : mw_FO "WaveLedger$Graph" lw_tbl vCl 19 1 3 (.array .long) := ⟨T_Gr, 5, t_Gr, rfl, by decide, wu_Gr, rfl, mw_G_in 181 (by decide +kernel) rfl, t_Gr_ok, n_Gr, by decide +kernel⟩
theorem fo_Gr_22 : mw_FO "WaveLedger$Graph" lw_tbl vCl 22 1 0 (.object "WaveLedger$Vertices") := ⟨T_Gr, 5, t_Gr, rfl, by decide, wu_Gr, rfl, mw_G_in 175 (by decide +kernel) rfl, t_Gr_ok, n_Gr, by decide +kernel⟩
theorem fo_Ma_9 : mw_FO "WaveLedger$Mail" lw_tbl vCl 9 2 1 (.array .int) := ⟨T_Ma, 3, t_Ma, rfl, by decide, wu_Ma, rfl, mw_G_in 104 (by decide +kernel) rfl, t_Ma_ok, n_Ma, by decide +kernel⟩
theorem fo_Ma_15 : mw_FO "WaveLedger$Mail" lw_tbl vCl 15 2 0 .int := ⟨T_Ma, 3, t_Ma, rfl, by decide, wu_Ma, rfl, mw_G_in 103 (by decide +kernel) rfl, t_Ma_ok, n_Ma, by decide +kernel⟩
theorem wk_No_9 : Cond.classLink "WaveLedger$Node" 9 "WaveLedger$Book" ∈ mw_G lw_tbl := mw_G_in 122 (by decide +kernel) rfl
theorem fo_No_12 : mw_FO "WaveLedger$Node" lw_tbl vCl 12 3 5 (.object "WaveLedger$Book") := ⟨T_No, 15, t_No, rfl, by decide, wu_No, rfl, mw_G_in 201 (by decide +kernel) rfl, t_No_ok, n_No, by decide +kernel⟩
theorem wk_No_18 : Cond.classLink "WaveLedger$Node" 18 "WaveLedger$TransferQueue" ∈ mw_G lw_tbl := mw_G_in 145 (by decide +kernel) rfl
theorem fo_No_21 : mw_FO "WaveLedger$Node" lw_tbl vCl 21 3 6 (.object "WaveLedger$TransferQueue") := ⟨T_No, 15, t_No, rfl, by decide, wu_No, rfl, mw_G_in 203 (by decide +kernel) rfl, t_No_ok, n_No, by decide +kernel⟩
theorem wk_No_25 : Cond.classLink "WaveLedger$Node" 25 "WaveLedger$Votes" ∈ mw_G lw_tbl := mw_G_in 159 (by decide +kernel) rfl
theorem fo_No_28 : mw_FO "WaveLedger$Node" lw_tbl vCl 28 3 7 (.object "WaveLedger$Votes") := ⟨T_No, 15, t_No, rfl, by decide, wu_No, rfl, mw_G_in 205 (by decide +kernel) rfl, t_No_ok, n_No, by decide +kernel⟩
theorem fo_No_32 : mw_FO "WaveLedger$Node" lw_tbl vCl 32 3 8 (.object "WaveLedger$Votes") := ⟨T_No, 15, t_No, rfl, by decide, wu_No, rfl, mw_G_in 206 (by decide +kernel) rfl, t_No_ok, n_No, by decide +kernel⟩
theorem fo_No_35 : mw_FO "WaveLedger$Node" lw_tbl vCl 35 3 9 (.array .int) := ⟨T_No, 15, t_No, rfl, by decide, wu_No, rfl, mw_G_in 207 (by decide +kernel) rfl, t_No_ok, n_No, by decide +kernel⟩
theorem fo_No_39 : mw_FO "WaveLedger$Node" lw_tbl vCl 39 3 0 .int := ⟨T_No, 15, t_No, rfl, by decide, wu_No, rfl, mw_G_in 195 (by decide +kernel) rfl, t_No_ok, n_No, by decide +kernel⟩
theorem fo_No_43 : mw_FO "WaveLedger$Node" lw_tbl vCl 43 3 1 .int := ⟨T_No, 15, t_No, rfl, by decide, wu_No, rfl, mw_G_in 196 (by decide +kernel) rfl, t_No_ok, n_No, by decide +kernel⟩
theorem fo_No_46 : mw_FO "WaveLedger$Node" lw_tbl vCl 46 3 2 (.object "WaveLedger$Vertices") := ⟨T_No, 15, t_No, rfl, by decide, wu_No, rfl, mw_G_in 197 (by decide +kernel) rfl, t_No_ok, n_No, by decide +kernel⟩
theorem fo_No_50 : mw_FO "WaveLedger$Node" lw_tbl vCl 50 3 3 (.object "WaveLedger$Mail") := ⟨T_No, 15, t_No, rfl, by decide, wu_No, rfl, mw_G_in 198 (by decide +kernel) rfl, t_No_ok, n_No, by decide +kernel⟩
theorem wk_No_54 : Cond.classLink "WaveLedger$Node" 54 "WaveLedger$Graph" ∈ mw_G lw_tbl := mw_G_in 169 (by decide +kernel) rfl
theorem fo_No_59 : mw_FO "WaveLedger$Node" lw_tbl vCl 59 3 4 (.object "WaveLedger$Graph") := ⟨T_No, 15, t_No, rfl, by decide, wu_No, rfl, mw_G_in 199 (by decide +kernel) rfl, t_No_ok, n_No, by decide +kernel⟩
theorem fo_Tq_9 : mw_FO "WaveLedger$TransferQueue" lw_tbl vCl 9 4 0 (.array .int) := ⟨T_Tq, 2, t_Tq, rfl, by decide, wu_Tq, rfl, mw_G_in 151 (by decide +kernel) rfl, t_Tq_ok, n_Tq, by decide +kernel⟩
theorem fo_Ve_9 : mw_FO "WaveLedger$Vertices" lw_tbl vCl 9 5 0 (.array .int) := ⟨T_Ve, 5, t_Ve, rfl, by decide, wu_Ve, rfl, mw_G_in 71 (by decide +kernel) rfl, t_Ve_ok, n_Ve, by decide +kernel⟩
theorem fo_Ve_15 : mw_FO "WaveLedger$Vertices" lw_tbl vCl 15 5 1 (.array .int) := ⟨T_Ve, 5, t_Ve, rfl, by decide, wu_Ve, rfl, mw_G_in 75 (by decide +kernel) rfl, t_Ve_ok, n_Ve, by decide +kernel⟩
theorem fo_Ve_18 : mw_FO "WaveLedger$Vertices" lw_tbl vCl 18 5 2 (.array .long) := ⟨T_Ve, 5, t_Ve, rfl, by decide, wu_Ve, rfl, mw_G_in 77 (by decide +kernel) rfl, t_Ve_ok, n_Ve, by decide +kernel⟩
theorem fo_Ve_22 : mw_FO "WaveLedger$Vertices" lw_tbl vCl 22 5 3 (.array .int) := ⟨T_Ve, 5, t_Ve, rfl, by decide, wu_Ve, rfl, mw_G_in 80 (by decide +kernel) rfl, t_Ve_ok, n_Ve, by decide +kernel⟩
theorem fo_Vo_9 : mw_FO "WaveLedger$Votes" lw_tbl vCl 9 6 0 (.array .int) := ⟨T_Vo, 1, t_Vo, rfl, by decide, wu_Vo, rfl, mw_G_in 165 (by decide +kernel) rfl, t_Vo_ok, n_Vo, by decide +kernel⟩
theorem wk_Wl_13 : Cond.classLink "WaveLedger" 13 "WaveLedger$Vertices" ∈ mw_G lw_tbl := mw_G_in 65 (by decide +kernel) rfl
theorem wk_Wl_16 : Cond.classLink "WaveLedger" 16 "WaveLedger$Mail" ∈ mw_G lw_tbl := mw_G_in 97 (by decide +kernel) rfl
theorem wk_Wl_21 : Cond.classLink "WaveLedger" 21 "WaveLedger$Node" ∈ mw_G lw_tbl := mw_G_in 115 (by decide +kernel) rfl
theorem fo_Wl_26 : mw_FO "WaveLedger" lw_tbl vCl 26 7 0 .int := ⟨T_Wl, 7, t_Wl, rfl, by decide, wu_Wl, rfl, mw_G_in 246 (by decide +kernel) rfl, t_Wl_ok, n_Wl, by decide +kernel⟩
theorem fo_Wl_30 : mw_FO "WaveLedger" lw_tbl vCl 30 7 1 (.object "WaveLedger$Vertices") := ⟨T_Wl, 7, t_Wl, rfl, by decide, wu_Wl, rfl, mw_G_in 247 (by decide +kernel) rfl, t_Wl_ok, n_Wl, by decide +kernel⟩
theorem fo_Wl_34 : mw_FO "WaveLedger" lw_tbl vCl 34 7 2 (.object "WaveLedger$Mail") := ⟨T_Wl, 7, t_Wl, rfl, by decide, wu_Wl, rfl, mw_G_in 248 (by decide +kernel) rfl, t_Wl_ok, n_Wl, by decide +kernel⟩
theorem fo_Wl_38 : mw_FO "WaveLedger" lw_tbl vCl 38 7 3 (.array (.object "WaveLedger$Node")) := ⟨T_Wl, 7, t_Wl, rfl, by decide, wu_Wl, rfl, mw_G_in 249 (by decide +kernel) rfl, t_Wl_ok, n_Wl, by decide +kernel⟩
theorem fo_Wl_42 : mw_FO "WaveLedger" lw_tbl vCl 42 7 4 .int := ⟨T_Wl, 7, t_Wl, rfl, by decide, wu_Wl, rfl, mw_G_in 250 (by decide +kernel) rfl, t_Wl_ok, n_Wl, by decide +kernel⟩
theorem fo_Mo_7 : mw_FO "WaveLedgerModel" lw_tbl vCl 7 8 6 (.array .int) := ⟨T_Mo, 29, t_Mo, rfl, by decide, wu_Mo, rfl, mw_G_in 648 (by decide +kernel) rfl, t_Mo_ok, n_Mo, by decide +kernel⟩
theorem fo_Mo_13 : mw_FO "WaveLedgerModel" lw_tbl vCl 13 8 7 (.array .int) := ⟨T_Mo, 29, t_Mo, rfl, by decide, wu_Mo, rfl, mw_G_in 649 (by decide +kernel) rfl, t_Mo_ok, n_Mo, by decide +kernel⟩
theorem fo_Mo_16 : mw_FO "WaveLedgerModel" lw_tbl vCl 16 8 8 (.array .long) := ⟨T_Mo, 29, t_Mo, rfl, by decide, wu_Mo, rfl, mw_G_in 650 (by decide +kernel) rfl, t_Mo_ok, n_Mo, by decide +kernel⟩
theorem fo_Mo_20 : mw_FO "WaveLedgerModel" lw_tbl vCl 20 8 9 (.array .int) := ⟨T_Mo, 29, t_Mo, rfl, by decide, wu_Mo, rfl, mw_G_in 651 (by decide +kernel) rfl, t_Mo_ok, n_Mo, by decide +kernel⟩
theorem fo_Mo_23 : mw_FO "WaveLedgerModel" lw_tbl vCl 23 8 11 (.array .int) := ⟨T_Mo, 29, t_Mo, rfl, by decide, wu_Mo, rfl, mw_G_in 653 (by decide +kernel) rfl, t_Mo_ok, n_Mo, by decide +kernel⟩
theorem fo_Mo_26 : mw_FO "WaveLedgerModel" lw_tbl vCl 26 8 13 (.array .boolean) := ⟨T_Mo, 29, t_Mo, rfl, by decide, wu_Mo, rfl, mw_G_in 655 (by decide +kernel) rfl, t_Mo_ok, n_Mo, by decide +kernel⟩
theorem fo_Mo_30 : mw_FO "WaveLedgerModel" lw_tbl vCl 30 8 14 (.array .boolean) := ⟨T_Mo, 29, t_Mo, rfl, by decide, wu_Mo, rfl, mw_G_in 656 (by decide +kernel) rfl, t_Mo_ok, n_Mo, by decide +kernel⟩
theorem fo_Mo_33 : mw_FO "WaveLedgerModel" lw_tbl vCl 33 8 15 (.array .int) := ⟨T_Mo, 29, t_Mo, rfl, by decide, wu_Mo, rfl, mw_G_in 657 (by decide +kernel) rfl, t_Mo_ok, n_Mo, by decide +kernel⟩
theorem fo_Mo_36 : mw_FO "WaveLedgerModel" lw_tbl vCl 36 8 16 (.array .boolean) := ⟨T_Mo, 29, t_Mo, rfl, by decide, wu_Mo, rfl, mw_G_in 658 (by decide +kernel) rfl, t_Mo_ok, n_Mo, by decide +kernel⟩
theorem fo_Mo_39 : mw_FO "WaveLedgerModel" lw_tbl vCl 39 8 17 (.array .boolean) := ⟨T_Mo, 29, t_Mo, rfl, by decide, wu_Mo, rfl, mw_G_in 659 (by decide +kernel) rfl, t_Mo_ok, n_Mo, by decide +kernel⟩
theorem fo_Mo_42 : mw_FO "WaveLedgerModel" lw_tbl vCl 42 8 18 (.array .int) := ⟨T_Mo, 29, t_Mo, rfl, by decide, wu_Mo, rfl, mw_G_in 660 (by decide +kernel) rfl, t_Mo_ok, n_Mo, by decide +kernel⟩
theorem fo_Mo_45 : mw_FO "WaveLedgerModel" lw_tbl vCl 45 8 19 (.array .int) := ⟨T_Mo, 29, t_Mo, rfl, by decide, wu_Mo, rfl, mw_G_in 661 (by decide +kernel) rfl, t_Mo_ok, n_Mo, by decide +kernel⟩
theorem fo_Mo_48 : mw_FO "WaveLedgerModel" lw_tbl vCl 48 8 20 (.array .int) := ⟨T_Mo, 29, t_Mo, rfl, by decide, wu_Mo, rfl, mw_G_in 662 (by decide +kernel) rfl, t_Mo_ok, n_Mo, by decide +kernel⟩
theorem fo_Mo_51 : mw_FO "WaveLedgerModel" lw_tbl vCl 51 8 21 (.array .int) := ⟨T_Mo, 29, t_Mo, rfl, by decide, wu_Mo, rfl, mw_G_in 663 (by decide +kernel) rfl, t_Mo_ok, n_Mo, by decide +kernel⟩
theorem fo_Mo_54 : mw_FO "WaveLedgerModel" lw_tbl vCl 54 8 22 (.array .boolean) := ⟨T_Mo, 29, t_Mo, rfl, by decide, wu_Mo, rfl, mw_G_in 664 (by decide +kernel) rfl, t_Mo_ok, n_Mo, by decide +kernel⟩
theorem fo_Mo_57 : mw_FO "WaveLedgerModel" lw_tbl vCl 57 8 23 (.array .int) := ⟨T_Mo, 29, t_Mo, rfl, by decide, wu_Mo, rfl, mw_G_in 665 (by decide +kernel) rfl, t_Mo_ok, n_Mo, by decide +kernel⟩
theorem fo_Mo_60 : mw_FO "WaveLedgerModel" lw_tbl vCl 60 8 24 (.array .int) := ⟨T_Mo, 29, t_Mo, rfl, by decide, wu_Mo, rfl, mw_G_in 666 (by decide +kernel) rfl, t_Mo_ok, n_Mo, by decide +kernel⟩
theorem fo_Mo_63 : mw_FO "WaveLedgerModel" lw_tbl vCl 63 8 25 (.array .int) := ⟨T_Mo, 29, t_Mo, rfl, by decide, wu_Mo, rfl, mw_G_in 667 (by decide +kernel) rfl, t_Mo_ok, n_Mo, by decide +kernel⟩
theorem fo_Mo_66 : mw_FO "WaveLedgerModel" lw_tbl vCl 66 8 26 (.array .int) := ⟨T_Mo, 29, t_Mo, rfl, by decide, wu_Mo, rfl, mw_G_in 668 (by decide +kernel) rfl, t_Mo_ok, n_Mo, by decide +kernel⟩
theorem fo_Mo_69 : mw_FO "WaveLedgerModel" lw_tbl vCl 69 8 27 (.array .int) := ⟨T_Mo, 29, t_Mo, rfl, by decide, wu_Mo, rfl, mw_G_in 669 (by decide +kernel) rfl, t_Mo_ok, n_Mo, by decide +kernel⟩
theorem fo_Mo_72 : mw_FO "WaveLedgerModel" lw_tbl vCl 72 8 28 (.array .int) := ⟨T_Mo, 29, t_Mo, rfl, by decide, wu_Mo, rfl, mw_G_in 670 (by decide +kernel) rfl, t_Mo_ok, n_Mo, by decide +kernel⟩
theorem fo_Mo_75 : mw_FO "WaveLedgerModel" lw_tbl vCl 75 8 1 .int := ⟨T_Mo, 29, t_Mo, rfl, by decide, wu_Mo, rfl, mw_G_in 643 (by decide +kernel) rfl, t_Mo_ok, n_Mo, by decide +kernel⟩
theorem fo_Mo_79 : mw_FO "WaveLedgerModel" lw_tbl vCl 79 8 2 .int := ⟨T_Mo, 29, t_Mo, rfl, by decide, wu_Mo, rfl, mw_G_in 644 (by decide +kernel) rfl, t_Mo_ok, n_Mo, by decide +kernel⟩
theorem fo_Mo_82 : mw_FO "WaveLedgerModel" lw_tbl vCl 82 8 3 .int := ⟨T_Mo, 29, t_Mo, rfl, by decide, wu_Mo, rfl, mw_G_in 645 (by decide +kernel) rfl, t_Mo_ok, n_Mo, by decide +kernel⟩
theorem wk_La_8 : Cond.classLink "WaveLedgerLaw" 8 "WaveLedger" ∈ mw_G lw_tbl := mw_G_in 54 (by decide +kernel) rfl
theorem wk_La_38 : Cond.classLink "WaveLedgerLaw" 38 "WaveLedgerModel" ∈ mw_G lw_tbl := mw_G_in 636 (by decide +kernel) rfl
theorem wz_Bo : Cond.instantiable "WaveLedger$Book" 4 ∈ mw_G lw_tbl := mw_G_in 123 (by decide +kernel) rfl
theorem wz_Gr : Cond.instantiable "WaveLedger$Graph" 5 ∈ mw_G lw_tbl := mw_G_in 170 (by decide +kernel) rfl
theorem wz_Ma : Cond.instantiable "WaveLedger$Mail" 3 ∈ mw_G lw_tbl := mw_G_in 98 (by decide +kernel) rfl
theorem wz_No : Cond.instantiable "WaveLedger$Node" 15 ∈ mw_G lw_tbl := mw_G_in 117 (by decide +kernel) rfl
theorem wz_Tq : Cond.instantiable "WaveLedger$TransferQueue" 2 ∈ mw_G lw_tbl := mw_G_in 146 (by decide +kernel) rfl
theorem wz_Ve : Cond.instantiable "WaveLedger$Vertices" 5 ∈ mw_G lw_tbl := mw_G_in 66 (by decide +kernel) rfl
theorem wz_Vo : Cond.instantiable "WaveLedger$Votes" 1 ∈ mw_G lw_tbl := mw_G_in 160 (by decide +kernel) rfl
theorem wz_Wl : Cond.instantiable "WaveLedger" 7 ∈ mw_G lw_tbl := mw_G_in 55 (by decide +kernel) rfl
theorem wz_Mo : Cond.instantiable "WaveLedgerModel" 29 ∈ mw_G lw_tbl := mw_G_in 637 (by decide +kernel) rfl
theorem mw_hx {n0 n n2 : Nat} {ad ad0 ad' : Nat → Nat} (h : ∀ k, k < n0 → ad k = ad0 k) (h2 : ∀ i, mw_ok0 n n2 i = true → ad' i = ad i) (hn : n0 ≤ n) : ∀ k, k < n0 → ad' k = ad0 k := fun k hk => (h2 k (mw_ok0_lt (Nat.lt_of_lt_of_le hk hn))).trans (h k hk)
abbrev fz : Nat → Int32 := fun _ => 0
abbrev gz : Nat → Int64 := fun _ => 0
/-! the worlds before and behind -/
def sh_Ve0 : Nat → mw_H := fun k => [.inr (5, [.inl 2, .inl 2, .inl 2, .inl 2, .inl 0])].getD k (.inr (0, []))
def sh_Ma0 : Nat → mw_H := fun k => [.inr (2, [.inl 0, .inl 2, .inl 0])].getD k (.inr (0, []))
def sh_Tq0 : Nat → mw_H := fun k => [.inr (4, [.inl 2, .inl 0])].getD k (.inr (0, []))
def sh_Vo0 : Nat → mw_H := fun k => [.inr (6, [.inl 2])].getD k (.inr (0, []))
def sh_Bo0 : Nat → mw_H := fun k => [.inr (0, [.inl 2, .inl 2, .inl 1, .inl 0])].getD k (.inr (0, []))
def sh_Wl0 : Nat → mw_H := fun k => [.inr (7, [.inl 0, .inl 2, .inl 2, .inl 2, .inl 0, .inl 0, .inl 0])].getD k (.inr (0, []))
def sh_Mo0 : Nat → mw_H := fun k => [.inr (8, [.inl 0, .inl 0, .inl 0, .inl 0, .inl 0, .inl 0, .inl 2, .inl 2, .inl 2, .inl 2, .inl 0, .inl 2, .inl 0, .inl 2, .inl 2, .inl 2, .inl 2, .inl 2, .inl 2, .inl 2, .inl 2, .inl 2, .inl 2, .inl 2, .inl 2, .inl 2, .inl 2, .inl 2, .inl 2])].getD k (.inr (0, []))
def sh_Gr0 : Nat → mw_H := fun k => [.inr (1, [.inl 2, .inl 2, .inl 2, .inl 2, .inl 1]), .inr (5, [.inr 2, .inr 3, .inr 4, .inr 5, .inl 0]), .inl (0, 73, .inl 0), .inl (0, 73, .inl 0), .inl (1, 73, .inl 1), .inl (0, 73, .inl 0)].getD k (.inr (0, []))
def sh_Gr1 : Nat → mw_H := fun k => [.inr (1, [.inr 1, .inr 6, .inr 7, .inr 8, .inl 1]), .inr (5, [.inr 2, .inr 3, .inr 4, .inr 5, .inl 0]), .inl (0, 73, .inl 0), .inl (0, 73, .inl 0), .inl (1, 73, .inl 1), .inl (0, 73, .inl 0), .inl (0, 48, .inl 0), .inl (1, 48, .inl 1), .inl (1, 48, .inl 1)].getD k (.inr (0, []))
def sh_No0 : Nat → mw_H := fun k => [.inr (3, [.inl 0, .inl 0, .inl 2, .inl 2, .inl 2, .inl 2, .inl 2, .inl 2, .inl 2, .inl 2, .inl 1, .inl 1, .inl 0, .inl 0, .inl 0]), .inr (5, [.inr 2, .inr 3, .inr 4, .inr 5, .inl 0]), .inl (0, 73, .inl 0), .inl (0, 73, .inl 0), .inl (1, 73, .inl 1), .inl (0, 73, .inl 0), .inr (2, [.inl 0, .inr 7, .inl 0]), .inl (0, 2240, .inl 0)].getD k (.inr (0, []))
def sh_No1 : Nat → mw_H := fun k => [.inr (3, [.inl 0, .inl 0, .inr 1, .inr 6, .inr 18, .inr 8, .inr 11, .inr 13, .inr 15, .inr 17, .inl 1, .inl 1, .inl 0, .inl 0, .inl 0]), .inr (5, [.inr 2, .inr 3, .inr 4, .inr 5, .inl 0]), .inl (0, 73, .inl 0), .inl (0, 73, .inl 0), .inl (1, 73, .inl 1), .inl (0, 73, .inl 0), .inr (2, [.inl 0, .inr 7, .inl 0]), .inl (0, 2240, .inl 0), .inr (0, [.inr 9, .inr 10, .inl 1, .inl 0]), .inl (0, 48, .inl 0), .inl (0, 4, .inl 0), .inr (4, [.inr 12, .inl 0]), .inl (0, 12, .inl 0), .inr (6, [.inr 14]), .inl (0, 192, .inl 0), .inr (6, [.inr 16]), .inl (0, 192, .inl 0), .inl (0, 3, .inl 0), .inr (1, [.inr 1, .inr 19, .inr 20, .inr 21, .inl 1]), .inl (0, 48, .inl 0), .inl (1, 48, .inl 1), .inl (1, 48, .inl 1)].getD k (.inr (0, []))
set_option maxHeartbeats 4000000 in
set_option maxRecDepth 100000 in
theorem m_Ve_init (l : Launch) (D : va_G) (cA : Nat → ClassId) (S : mw_S) (hz : S.1 0 = fz) : mw_MI l lw_tbl (fun _ => True) y_Ve_init b_Ve_init 1 { frames := 1, cells := 4, slots := 292, locals := 20 } D vCl cA sh_Ve0 1 [.inr (.inr 0)] (S) sh_Ve 5 4 292 (fun S' => S'.1 0 4 = 0 ∧ S'.1 1 = fz ∧ S'.1 2 = fz ∧ S'.2 3 = gz ∧ S'.1 4 = fz) := by
  refine mw_MI_of (by decide) rfl (Nat.le_of_ble_eq_true rfl) ?_
  intro p e s m args below meth c A ad0 C hR hI hx
  refine mw_aload_n C 0 d_Ve_init_0 rfl rfl ?_
  refine mw_obj C wo_Ve wo_inst wo_code d_Ve_init_1 (by decide) (by decide) ?_
  refine mw_aload_n C 0 d_Ve_init_4 rfl rfl ?_
  refine mw_bipush C (v := nI 73) d_Ve_init_5 (by decide) ?_
  refine mw_newaI C (atype := .int) (ty := .int) 0 rfl rfl (fun _ _ h => h) rfl wa_int (by decide) (by decide) d_Ve_init_7 (by decide +kernel) rfl rfl (by decide) (by decide) (fun ad hy C => ?_)
  have hx := mw_hx hx hy (by decide)
  refine mw_putIr C fo_Ve_9 hI.1 (fun _ => ⟨rfl, rfl⟩) d_Ve_init_9 (by decide) rfl (by decide) ?_
  refine mw_aload_n C 0 d_Ve_init_12 rfl rfl ?_
  refine mw_bipush C (v := nI 73) d_Ve_init_13 (by decide) ?_
  refine mw_newaI C (atype := .int) (ty := .int) 0 rfl rfl (fun _ _ h => h) rfl wa_int (by decide) (by decide) d_Ve_init_15 (by decide +kernel) rfl rfl (by decide) (by decide) (fun ad hy C => ?_)
  have hx := mw_hx hx hy (by decide)
  refine mw_putIr C fo_Ve_15 hI.1 (fun _ => ⟨rfl, rfl⟩) d_Ve_init_17 (by decide) rfl (by decide) ?_
  refine mw_aload_n C 0 d_Ve_init_20 rfl rfl ?_
  refine mw_bipush C (v := nI 73) d_Ve_init_21 (by decide) ?_
  refine mw_newaL C wa_long (by decide) (by decide) d_Ve_init_23 (by decide +kernel) rfl rfl (by decide) (by decide) (fun ad hy C => ?_)
  have hx := mw_hx hx hy (by decide)
  refine mw_putIr C fo_Ve_18 hI.1 (fun _ => ⟨rfl, rfl⟩) d_Ve_init_25 (by decide) rfl (by decide) ?_
  refine mw_aload_n C 0 d_Ve_init_28 rfl rfl ?_
  refine mw_bipush C (v := nI 73) d_Ve_init_29 (by decide) ?_
  refine mw_newaI C (atype := .int) (ty := .int) 0 rfl rfl (fun _ _ h => h) rfl wa_int (by decide) (by decide) d_Ve_init_31 (by decide +kernel) rfl rfl (by decide) (by decide) (fun ad hy C => ?_)
  have hx := mw_hx hx hy (by decide)
  refine mw_putIr C fo_Ve_22 hI.1 (fun _ => ⟨rfl, rfl⟩) d_Ve_init_33 (by decide) rfl (by decide) ?_
  refine mw_shEq (sh' := sh_Ve) (by decide +kernel) ?_
  exact mw_vretI C hR hx (by decide) d_Ve_init_36 (by decide) (by decide) ⟨(congrFun hz 4 : S.1 0 4 = 0), rfl, rfl, rfl, rfl⟩
set_option maxHeartbeats 4000000 in
set_option maxRecDepth 100000 in
theorem m_Ma_init (l : Launch) (D : va_G) (cA : Nat → ClassId) (x : Int32) (S : mw_S) (hz : S.1 0 = fz) : mw_MI l lw_tbl (fun _ => True) y_Ma_init b_Ma_init 2 { frames := 1, cells := 1, slots := 2240, locals := 20 } D vCl cA sh_Ma0 1 [.inr (.inr 0), .inl x] (S) sh_Ma 2 1 2240 (fun S' => S'.1 0 0 = x ∧ S'.1 0 2 = 0 ∧ S'.1 1 = fz) := by
  refine mw_MI_of (by decide) rfl (Nat.le_of_ble_eq_true rfl) ?_
  intro p e s m args below meth c A ad0 C hR hI hx
  refine mw_aload_n C 0 d_Ma_init_0 rfl rfl ?_
  refine mw_obj C wo_Ma wo_inst wo_code d_Ma_init_1 (by decide) (by decide) ?_
  refine mw_aload_n C 0 d_Ma_init_4 rfl rfl ?_
  refine mw_sipush C (v := nI 2240) d_Ma_init_5 (by decide) ?_
  refine mw_newaI C (atype := .int) (ty := .int) 0 rfl rfl (fun _ _ h => h) rfl wa_int (by decide) (by decide) d_Ma_init_8 (by decide +kernel) rfl rfl (by decide) (by decide) (fun ad hy C => ?_)
  have hx := mw_hx hx hy (by decide)
  refine mw_putIr C fo_Ma_9 hI.1 (fun _ => ⟨rfl, rfl⟩) d_Ma_init_10 (by decide) rfl (by decide) ?_
  refine mw_aload_n C 0 d_Ma_init_13 rfl rfl ?_
  refine mw_iload_n C 1 d_Ma_init_14 rfl rfl ?_
  refine mw_putIi C fo_Ma_15 hI.1 d_Ma_init_15 (by decide) rfl rfl ?_
  refine mw_shEq (sh' := sh_Ma) (by decide +kernel) ?_
  exact mw_vretI C hR hx (by decide) d_Ma_init_18 (by decide) (by decide) ⟨rfl, (congrFun hz 2 : S.1 0 2 = 0), rfl⟩
set_option maxHeartbeats 4000000 in
set_option maxRecDepth 100000 in
theorem m_Tq_init (l : Launch) (D : va_G) (cA : Nat → ClassId) (S : mw_S) (hz : S.1 0 = fz) : mw_MI l lw_tbl (fun _ => True) y_Tq_init b_Tq_init 1 { frames := 1, cells := 1, slots := 12, locals := 20 } D vCl cA sh_Tq0 1 [.inr (.inr 0)] (S) sh_Tq 2 1 12 (fun S' => S'.1 0 1 = 0 ∧ S'.1 1 = fz) := by
  refine mw_MI_of (by decide) rfl (Nat.le_of_ble_eq_true rfl) ?_
  intro p e s m args below meth c A ad0 C hR hI hx
  refine mw_aload_n C 0 d_Tq_init_0 rfl rfl ?_
  refine mw_obj C wo_Tq wo_inst wo_code d_Tq_init_1 (by decide) (by decide) ?_
  refine mw_aload_n C 0 d_Tq_init_4 rfl rfl ?_
  refine mw_bipush C (v := nI 12) d_Tq_init_5 (by decide) ?_
  refine mw_newaI C (atype := .int) (ty := .int) 0 rfl rfl (fun _ _ h => h) rfl wa_int (by decide) (by decide) d_Tq_init_7 (by decide +kernel) rfl rfl (by decide) (by decide) (fun ad hy C => ?_)
  have hx := mw_hx hx hy (by decide)
  refine mw_putIr C fo_Tq_9 hI.1 (fun _ => ⟨rfl, rfl⟩) d_Tq_init_9 (by decide) rfl (by decide) ?_
  refine mw_shEq (sh' := sh_Tq) (by decide +kernel) ?_
  exact mw_vretI C hR hx (by decide) d_Tq_init_12 (by decide) (by decide) ⟨(congrFun hz 1 : S.1 0 1 = 0), rfl⟩
set_option maxHeartbeats 4000000 in
set_option maxRecDepth 100000 in
theorem m_Vo_init (l : Launch) (D : va_G) (cA : Nat → ClassId) (S : mw_S) : mw_MI l lw_tbl (fun _ => True) y_Vo_init b_Vo_init 1 { frames := 1, cells := 1, slots := 192, locals := 20 } D vCl cA sh_Vo0 1 [.inr (.inr 0)] (S) sh_Vo 2 1 192 (fun S' => S'.1 1 = fz) := by
  refine mw_MI_of (by decide) rfl (Nat.le_of_ble_eq_true rfl) ?_
  intro p e s m args below meth c A ad0 C hR hI hx
  refine mw_aload_n C 0 d_Vo_init_0 rfl rfl ?_
  refine mw_obj C wo_Vo wo_inst wo_code d_Vo_init_1 (by decide) (by decide) ?_
  refine mw_aload_n C 0 d_Vo_init_4 rfl rfl ?_
  refine mw_sipush C (v := nI 192) d_Vo_init_5 (by decide) ?_
  refine mw_newaI C (atype := .int) (ty := .int) 0 rfl rfl (fun _ _ h => h) rfl wa_int (by decide) (by decide) d_Vo_init_8 (by decide +kernel) rfl rfl (by decide) (by decide) (fun ad hy C => ?_)
  have hx := mw_hx hx hy (by decide)
  refine mw_putIr C fo_Vo_9 hI.1 (fun _ => ⟨rfl, rfl⟩) d_Vo_init_10 (by decide) rfl (by decide) ?_
  refine mw_shEq (sh' := sh_Vo) (by decide +kernel) ?_
  exact mw_vretI C hR hx (by decide) d_Vo_init_13 (by decide) (by decide) rfl
set_option maxHeartbeats 4000000 in
set_option maxRecDepth 100000 in
theorem m_Gr_init (l : Launch) (D : va_G) (cA : Nat → ClassId) (S : mw_S) (hz : S.2 0 = gz) : mw_MI l lw_tbl (fun _ => True) y_Gr_init b_Gr_init 2 { frames := 1, cells := 3, slots := 144, locals := 20 } D vCl cA sh_Gr0 6 [.inr (.inr 0), .inr (.inr 1)] (S) sh_Gr1 9 3 144 (fun S' => S'.2 0 4 = 0 ∧ S'.1 6 = fz ∧ S'.2 7 = gz ∧ S'.2 8 = gz ∧ ∀ k, 1 ≤ k → k < 6 → S'.1 k = S.1 k ∧ S'.2 k = S.2 k) := by
  refine mw_MI_of (by decide) rfl (Nat.le_of_ble_eq_true rfl) ?_
  intro p e s m args below meth c A ad0 C hR hI hx
  refine mw_aload_n C 0 d_Gr_init_0 rfl rfl ?_
  refine mw_obj C wo_Gr wo_inst wo_code d_Gr_init_1 (by decide) (by decide) ?_
  refine mw_aload_n C 0 d_Gr_init_4 rfl rfl ?_
  refine mw_bipush C (v := nI 48) d_Gr_init_5 (by decide) ?_
  refine mw_newaI C (atype := .int) (ty := .int) 0 rfl rfl (fun _ _ h => h) rfl wa_int (by decide) (by decide) d_Gr_init_7 (by decide +kernel) rfl rfl (by decide) (by decide) (fun ad hy C => ?_)
  have hx := mw_hx hx hy (by decide)
  refine mw_putIr C fo_Gr_9 hI.1 (fun _ => ⟨rfl, rfl⟩) d_Gr_init_9 (by decide) rfl (by decide) ?_
  refine mw_aload_n C 0 d_Gr_init_12 rfl rfl ?_
  refine mw_bipush C (v := nI 48) d_Gr_init_13 (by decide) ?_
  refine mw_newaL C wa_long (by decide) (by decide) d_Gr_init_15 (by decide +kernel) rfl rfl (by decide) (by decide) (fun ad hy C => ?_)
  have hx := mw_hx hx hy (by decide)
  refine mw_putIr C fo_Gr_15 hI.1 (fun _ => ⟨rfl, rfl⟩) d_Gr_init_17 (by decide) rfl (by decide) ?_
  refine mw_aload_n C 0 d_Gr_init_20 rfl rfl ?_
  refine mw_bipush C (v := nI 48) d_Gr_init_21 (by decide) ?_
  refine mw_newaL C wa_long (by decide) (by decide) d_Gr_init_23 (by decide +kernel) rfl rfl (by decide) (by decide) (fun ad hy C => ?_)
  have hx := mw_hx hx hy (by decide)
  refine mw_putIr C fo_Gr_19 hI.1 (fun _ => ⟨rfl, rfl⟩) d_Gr_init_25 (by decide) rfl (by decide) ?_
  refine mw_aload_n C 0 d_Gr_init_28 rfl rfl ?_
  refine mw_aload_n C 1 d_Gr_init_29 rfl rfl ?_
  refine mw_putIr C fo_Gr_22 hI.1 (fun _ => ⟨rfl, rfl⟩) d_Gr_init_30 (by decide) rfl (by decide) ?_
  refine mw_shEq (sh' := sh_Gr1) (by decide +kernel) ?_
  exact mw_vretI C hR hx (by decide) d_Gr_init_33 (by decide) (by decide) ⟨(congrFun hz 4 : S.2 0 4 = 0), rfl, rfl, rfl, fun k h1 h2 => ⟨by rw [(mw_z_o (by omega)).1, (mw_z_o (by omega)).1, (mw_z_o (by omega)).1], by rw [(mw_z_o (by omega)).2, (mw_z_o (by omega)).2, (mw_z_o (by omega)).2]⟩⟩
set_option maxHeartbeats 4000000 in
set_option maxRecDepth 100000 in
theorem m_Bo_init (l : Launch) (D : va_G) (cA : Nat → ClassId) (S : mw_S) (hz : S.1 0 = fz) (hz2 : S.2 0 = gz) : mw_MI l lw_tbl (fun _ => True) y_Bo_init b_Bo_init 2 { frames := 1, cells := 2, slots := 52, locals := 20 } D vCl cA sh_Bo0 1 [.inr (.inr 0)] (S) sh_Bo 3 2 52 (fun S' => S'.2 0 2 = 0 ∧ S'.1 0 3 = 0 ∧ S'.1 1 = fz ∧ ∀ j, j < 4 → S'.1 2 j = nI 100) := by
  refine mw_MI_of (by decide) rfl (Nat.le_of_ble_eq_true rfl) ?_
  intro p e s m args below meth c A ad0 C hR hI hx
  refine mw_aload_n C 0 d_Bo_init_0 rfl rfl ?_
  refine mw_obj C wo_Bo wo_inst wo_code d_Bo_init_1 (by decide) (by decide) ?_
  refine mw_aload_n C 0 d_Bo_init_4 rfl rfl ?_
  refine mw_bipush C (v := nI 48) d_Bo_init_5 (by decide) ?_
  refine mw_newaI C (atype := .int) (ty := .int) 0 rfl rfl (fun _ _ h => h) rfl wa_int (by decide) (by decide) d_Bo_init_7 (by decide +kernel) rfl rfl (by decide) (by decide) (fun ad hy C => ?_)
  have hx := mw_hx hx hy (by decide)
  refine mw_putIr C fo_Bo_9 hI.1 (fun _ => ⟨rfl, rfl⟩) d_Bo_init_9 (by decide) rfl (by decide) ?_
  refine mw_aload_n C 0 d_Bo_init_12 rfl rfl ?_
  refine mw_iconst C (v := nI 4) d_Bo_init_13 (by decide) ?_
  refine mw_newaI C (atype := .int) (ty := .int) 0 rfl rfl (fun _ _ h => h) rfl wa_int (by decide) (by decide) d_Bo_init_14 (by decide +kernel) rfl rfl (by decide) (by decide) (fun ad hy C => ?_)
  have hx := mw_hx hx hy (by decide)
  refine mw_putIr C fo_Bo_15 hI.1 (fun _ => ⟨rfl, rfl⟩) d_Bo_init_16 (by decide) rfl (by decide) ?_
  refine mw_iconst C (v := nI 0) d_Bo_init_19 (by decide) ?_
  refine mw_istore_n C 1 d_Bo_init_20 rfl (by decide) ?_
  refine mw_to [(0, .inr (.inr 0)), (1, .inl (nI 0))] (by exact And.intro rfl (And.intro rfl trivial)) ?_
  refine mw_iload_n C 1 d_Bo_init_21 rfl rfl ?_
  refine mw_iconst C (v := nI 4) d_Bo_init_22 (by decide) ?_
  refine mw_icmp_geN C 40 d_Bo_init_23 (by decide) (by omega) (by omega) (fun h23 => absurd h23 (by decide)) (fun h23 => ?_)
  refine mw_aload_n C 0 d_Bo_init_26 rfl rfl ?_
  refine mw_getr C f_Bo_15 d_Bo_init_27 (by decide) rfl rfl ?_
  refine mw_iload_n C 1 d_Bo_init_30 rfl rfl ?_
  refine mw_bipush C (v := nI 100) d_Bo_init_31 (by decide) ?_
  refine mw_iastN C rfl d_Bo_init_33 (by decide) rfl (by omega) (by decide) ?_
  refine mw_iincN C d_Bo_init_34 rfl (by decide) ?_
  refine mw_goto C 21 d_Bo_init_37 (by decide) ?_
  refine mw_to [(0, .inr (.inr 0)), (1, .inl (nI 1))] (by exact And.intro rfl (And.intro rfl trivial)) ?_
  refine mw_iload_n C 1 d_Bo_init_21 rfl rfl ?_
  refine mw_iconst C (v := nI 4) d_Bo_init_22 (by decide) ?_
  refine mw_icmp_geN C 40 d_Bo_init_23 (by decide) (by omega) (by omega) (fun h23 => absurd h23 (by decide)) (fun h23 => ?_)
  refine mw_aload_n C 0 d_Bo_init_26 rfl rfl ?_
  refine mw_getr C f_Bo_15 d_Bo_init_27 (by decide) rfl rfl ?_
  refine mw_iload_n C 1 d_Bo_init_30 rfl rfl ?_
  refine mw_bipush C (v := nI 100) d_Bo_init_31 (by decide) ?_
  refine mw_iastN C rfl d_Bo_init_33 (by decide) rfl (by omega) (by decide) ?_
  refine mw_iincN C d_Bo_init_34 rfl (by decide) ?_
  refine mw_goto C 21 d_Bo_init_37 (by decide) ?_
  refine mw_to [(0, .inr (.inr 0)), (1, .inl (nI 2))] (by exact And.intro rfl (And.intro rfl trivial)) ?_
  refine mw_iload_n C 1 d_Bo_init_21 rfl rfl ?_
  refine mw_iconst C (v := nI 4) d_Bo_init_22 (by decide) ?_
  refine mw_icmp_geN C 40 d_Bo_init_23 (by decide) (by omega) (by omega) (fun h23 => absurd h23 (by decide)) (fun h23 => ?_)
  refine mw_aload_n C 0 d_Bo_init_26 rfl rfl ?_
  refine mw_getr C f_Bo_15 d_Bo_init_27 (by decide) rfl rfl ?_
  refine mw_iload_n C 1 d_Bo_init_30 rfl rfl ?_
  refine mw_bipush C (v := nI 100) d_Bo_init_31 (by decide) ?_
  refine mw_iastN C rfl d_Bo_init_33 (by decide) rfl (by omega) (by decide) ?_
  refine mw_iincN C d_Bo_init_34 rfl (by decide) ?_
  refine mw_goto C 21 d_Bo_init_37 (by decide) ?_
  refine mw_to [(0, .inr (.inr 0)), (1, .inl (nI 3))] (by exact And.intro rfl (And.intro rfl trivial)) ?_
  refine mw_iload_n C 1 d_Bo_init_21 rfl rfl ?_
  refine mw_iconst C (v := nI 4) d_Bo_init_22 (by decide) ?_
  refine mw_icmp_geN C 40 d_Bo_init_23 (by decide) (by omega) (by omega) (fun h23 => absurd h23 (by decide)) (fun h23 => ?_)
  refine mw_aload_n C 0 d_Bo_init_26 rfl rfl ?_
  refine mw_getr C f_Bo_15 d_Bo_init_27 (by decide) rfl rfl ?_
  refine mw_iload_n C 1 d_Bo_init_30 rfl rfl ?_
  refine mw_bipush C (v := nI 100) d_Bo_init_31 (by decide) ?_
  refine mw_iastN C rfl d_Bo_init_33 (by decide) rfl (by omega) (by decide) ?_
  refine mw_iincN C d_Bo_init_34 rfl (by decide) ?_
  refine mw_goto C 21 d_Bo_init_37 (by decide) ?_
  refine mw_to [(0, .inr (.inr 0)), (1, .inl (nI 4))] (by exact And.intro rfl (And.intro rfl trivial)) ?_
  refine mw_iload_n C 1 d_Bo_init_21 rfl rfl ?_
  refine mw_iconst C (v := nI 4) d_Bo_init_22 (by decide) ?_
  refine mw_icmp_geN C 40 d_Bo_init_23 (by decide) (by omega) (by omega) (fun h23 => ?_) (fun h23 => absurd h23 (by decide))
  refine mw_shEq (sh' := sh_Bo) (by decide +kernel) ?_
  exact mw_vretI C hR hx (by decide) d_Bo_init_40 (by decide) (by decide) ⟨(congrFun hz2 2 : S.2 0 2 = 0), (congrFun hz 3 : S.1 0 3 = 0), rfl, fun j hj => by
    have h4 : j = 0 ∨ j = 1 ∨ j = 2 ∨ j = 3 := by omega
    rcases h4 with rfl | rfl | rfl | rfl <;> rfl⟩
/-- what a node's cells hold at first, in the node's own numbering -/
def nZ (i cn : Int32) (T : mw_S) : Prop := T.1 0 0 = i ∧ T.1 0 1 = cn ∧ T.2 0 10 = 0 ∧ T.2 0 11 = 0 ∧ T.1 0 12 = 0 ∧ T.1 0 13 = 0 ∧ T.1 0 14 = 0 ∧ T.2 1 4 = 0 ∧ T.1 2 = fz ∧ T.2 3 = gz ∧ T.2 4 = gz ∧ T.2 5 2 = 0 ∧ T.1 5 3 = 0 ∧ T.1 6 = fz ∧ (∀ j, j < 4 → T.1 7 j = nI 100) ∧ T.1 8 1 = 0 ∧ T.1 9 = fz ∧ T.1 11 = fz ∧ T.1 13 = fz
abbrev ixN : List Nat := [0, 18, 19, 20, 21, 8, 9, 10, 11, 12, 13, 14, 15, 16, 17, 1, 2, 3, 4, 5, 6, 7]
set_option maxHeartbeats 4000000 in
set_option maxRecDepth 100000 in
theorem m_No_init (l : Launch) (D : va_G) (cA : Nat → ClassId) (x cn : Int32) (S : mw_S) (hz : S.1 0 = fz) (hz2 : S.2 0 = gz) : mw_MI l lw_tbl (fun _ => True) y_No_init b_No_init 5 { frames := 2, cells := 14, slots := 608, locals := 41 } D vCl cA sh_No0 8 [.inr (.inr 0), .inl x, .inl cn, .inr (.inr 1), .inr (.inr 6)] (S) sh_No1 22 14 608 (fun S' => nZ x cn (mw_rs S' ixN) ∧ ∀ k, 1 ≤ k → k < 8 → S'.1 k = S.1 k ∧ S'.2 k = S.2 k) := by
  refine mw_MI_of (by decide) rfl (Nat.le_of_ble_eq_true rfl) ?_
  intro p e s m args below meth c A ad0 C hR hI hx
  refine mw_aload_n C 0 d_No_init_0 rfl rfl ?_
  refine mw_obj C wo_No wo_inst wo_code d_No_init_1 (by decide) (by decide) ?_
  refine mw_aload_n C 0 d_No_init_4 rfl rfl ?_
  refine mw_new C (ci := 0) [.inl 2, .inl 2, .inl 1, .inl 0] rfl t_Bo_ok wu_Bo wk_No_9 wz_Bo wi_Bo (by decide +kernel) rfl d_No_init_5 (by decide +kernel) rfl rfl (by decide) (by decide) (fun ad hy C => ?_)
  have hx := mw_hx hx hy (by decide)
  refine mw_dup C d_No_init_8 rfl ?_
  refine mw_runI C (kk := 0) (ix := [8]) (fun k => [.inr (3, [.inl 0, .inl 0, .inl 2, .inl 2, .inl 2, .inl 2, .inl 2, .inl 2, .inl 2, .inl 2, .inl 1, .inl 1, .inl 0, .inl 0, .inl 0]), .inr (5, [.inr 2, .inr 3, .inr 4, .inr 5, .inl 0]), .inl (0, 73, .inl 0), .inl (0, 73, .inl 0), .inl (1, 73, .inl 1), .inl (0, 73, .inl 0), .inr (2, [.inl 0, .inr 7, .inl 0]), .inl (0, 2240, .inl 0), .inr (0, [.inr 9, .inr 10, .inl 1, .inl 0]), .inl (0, 48, .inl 0), .inl (0, 4, .inl 0)].getD k (.inr (0, []))) 11 [8, 9, 10] (m_Bo_init l D cA _ rfl rfl) (mw_ix_of (by decide +kernel)) (mw_ix_of (by decide +kernel)) (by decide +kernel) kb_No_11 wm_Bo_init rfl (fun _ _ _ _ h => h) (fun _ _ _ _ _ _ => trivial) d_No_init_9 rfl rfl (Nat.le_of_ble_eq_true rfl) rfl rfl ⟨by decide, by decide⟩ ⟨by decide, by decide⟩ rfl rfl (fun ad hy C S9 e9 => ?_)
  have hx := mw_hx hx hy (by decide)
  refine mw_putIr C fo_No_12 hI.1 (fun _ => ⟨rfl, rfl⟩) d_No_init_12 (by decide) rfl (by decide) ?_
  refine mw_aload_n C 0 d_No_init_15 rfl rfl ?_
  refine mw_new C (ci := 4) [.inl 2, .inl 0] rfl t_Tq_ok wu_Tq wk_No_18 wz_Tq wi_Tq (by decide +kernel) rfl d_No_init_16 (by decide +kernel) rfl rfl (by decide) (by decide) (fun ad hy C => ?_)
  have hx := mw_hx hx hy (by decide)
  refine mw_dup C d_No_init_19 rfl ?_
  refine mw_runI C (kk := 0) (ix := [11]) (fun k => [.inr (3, [.inl 0, .inl 0, .inl 2, .inl 2, .inl 2, .inr 8, .inl 2, .inl 2, .inl 2, .inl 2, .inl 1, .inl 1, .inl 0, .inl 0, .inl 0]), .inr (5, [.inr 2, .inr 3, .inr 4, .inr 5, .inl 0]), .inl (0, 73, .inl 0), .inl (0, 73, .inl 0), .inl (1, 73, .inl 1), .inl (0, 73, .inl 0), .inr (2, [.inl 0, .inr 7, .inl 0]), .inl (0, 2240, .inl 0), .inr (0, [.inr 9, .inr 10, .inl 1, .inl 0]), .inl (0, 48, .inl 0), .inl (0, 4, .inl 0), .inr (4, [.inr 12, .inl 0]), .inl (0, 12, .inl 0)].getD k (.inr (0, []))) 13 [11, 12] (m_Tq_init l D cA _ rfl) (mw_ix_of (by decide +kernel)) (mw_ix_of (by decide +kernel)) (by decide +kernel) kb_No_20 wm_Tq_init rfl (fun _ _ _ _ h => h) (fun _ _ _ _ _ _ => trivial) d_No_init_20 rfl rfl (Nat.le_of_ble_eq_true rfl) rfl rfl ⟨by decide, by decide⟩ ⟨by decide, by decide⟩ rfl rfl (fun ad hy C S20 e20 => ?_)
  have hx := mw_hx hx hy (by decide)
  refine mw_putIr C fo_No_21 hI.1 (fun _ => ⟨rfl, rfl⟩) d_No_init_23 (by decide) rfl (by decide) ?_
  refine mw_aload_n C 0 d_No_init_26 rfl rfl ?_
  refine mw_new C (ci := 6) [.inl 2] rfl t_Vo_ok wu_Vo wk_No_25 wz_Vo wi_Vo (by decide +kernel) rfl d_No_init_27 (by decide +kernel) rfl rfl (by decide) (by decide) (fun ad hy C => ?_)
  have hx := mw_hx hx hy (by decide)
  refine mw_dup C d_No_init_30 rfl ?_
  refine mw_runI C (kk := 0) (ix := [13]) (fun k => [.inr (3, [.inl 0, .inl 0, .inl 2, .inl 2, .inl 2, .inr 8, .inr 11, .inl 2, .inl 2, .inl 2, .inl 1, .inl 1, .inl 0, .inl 0, .inl 0]), .inr (5, [.inr 2, .inr 3, .inr 4, .inr 5, .inl 0]), .inl (0, 73, .inl 0), .inl (0, 73, .inl 0), .inl (1, 73, .inl 1), .inl (0, 73, .inl 0), .inr (2, [.inl 0, .inr 7, .inl 0]), .inl (0, 2240, .inl 0), .inr (0, [.inr 9, .inr 10, .inl 1, .inl 0]), .inl (0, 48, .inl 0), .inl (0, 4, .inl 0), .inr (4, [.inr 12, .inl 0]), .inl (0, 12, .inl 0), .inr (6, [.inr 14]), .inl (0, 192, .inl 0)].getD k (.inr (0, []))) 15 [13, 14] (m_Vo_init l D cA _) (mw_ix_of (by decide +kernel)) (mw_ix_of (by decide +kernel)) (by decide +kernel) kb_No_27 wm_Vo_init rfl (fun _ _ _ _ h => h) (fun _ _ _ _ _ _ => trivial) d_No_init_31 rfl rfl (Nat.le_of_ble_eq_true rfl) rfl rfl ⟨by decide, by decide⟩ ⟨by decide, by decide⟩ rfl rfl (fun ad hy C S31 e31 => ?_)
  have hx := mw_hx hx hy (by decide)
  refine mw_putIr C fo_No_28 hI.1 (fun _ => ⟨rfl, rfl⟩) d_No_init_34 (by decide) rfl (by decide) ?_
  refine mw_aload_n C 0 d_No_init_37 rfl rfl ?_
  refine mw_new C (ci := 6) [.inl 2] rfl t_Vo_ok wu_Vo wk_No_25 wz_Vo wi_Vo (by decide +kernel) rfl d_No_init_38 (by decide +kernel) rfl rfl (by decide) (by decide) (fun ad hy C => ?_)
  have hx := mw_hx hx hy (by decide)
  refine mw_dup C d_No_init_41 rfl ?_
  refine mw_runI C (kk := 0) (ix := [15]) (fun k => [.inr (3, [.inl 0, .inl 0, .inl 2, .inl 2, .inl 2, .inr 8, .inr 11, .inr 13, .inl 2, .inl 2, .inl 1, .inl 1, .inl 0, .inl 0, .inl 0]), .inr (5, [.inr 2, .inr 3, .inr 4, .inr 5, .inl 0]), .inl (0, 73, .inl 0), .inl (0, 73, .inl 0), .inl (1, 73, .inl 1), .inl (0, 73, .inl 0), .inr (2, [.inl 0, .inr 7, .inl 0]), .inl (0, 2240, .inl 0), .inr (0, [.inr 9, .inr 10, .inl 1, .inl 0]), .inl (0, 48, .inl 0), .inl (0, 4, .inl 0), .inr (4, [.inr 12, .inl 0]), .inl (0, 12, .inl 0), .inr (6, [.inr 14]), .inl (0, 192, .inl 0), .inr (6, [.inr 16]), .inl (0, 192, .inl 0)].getD k (.inr (0, []))) 17 [15, 16] (m_Vo_init l D cA _) (mw_ix_of (by decide +kernel)) (mw_ix_of (by decide +kernel)) (by decide +kernel) kb_No_27 wm_Vo_init rfl (fun _ _ _ _ h => h) (fun _ _ _ _ _ _ => trivial) d_No_init_42 rfl rfl (Nat.le_of_ble_eq_true rfl) rfl rfl ⟨by decide, by decide⟩ ⟨by decide, by decide⟩ rfl rfl (fun ad hy C S42 e42 => ?_)
  have hx := mw_hx hx hy (by decide)
  refine mw_putIr C fo_No_32 hI.1 (fun _ => ⟨rfl, rfl⟩) d_No_init_45 (by decide) rfl (by decide) ?_
  refine mw_aload_n C 0 d_No_init_48 rfl rfl ?_
  refine mw_iconst C (v := nI 3) d_No_init_49 (by decide) ?_
  refine mw_newaI C (atype := .int) (ty := .int) 0 rfl rfl (fun _ _ h => h) rfl wa_int (by decide) (by decide) d_No_init_50 (by decide +kernel) rfl rfl (by decide) (by decide) (fun ad hy C => ?_)
  have hx := mw_hx hx hy (by decide)
  refine mw_putIr C fo_No_35 hI.1 (fun _ => ⟨rfl, rfl⟩) d_No_init_52 (by decide) rfl (by decide) ?_
  refine mw_aload_n C 0 d_No_init_55 rfl rfl ?_
  refine mw_iload_n C 1 d_No_init_56 rfl rfl ?_
  refine mw_putIi C fo_No_39 hI.1 d_No_init_57 (by decide) rfl rfl ?_
  refine mw_aload_n C 0 d_No_init_60 rfl rfl ?_
  refine mw_iload_n C 2 d_No_init_61 rfl rfl ?_
  refine mw_putIi C fo_No_43 hI.1 d_No_init_62 (by decide) rfl rfl ?_
  refine mw_aload_n C 0 d_No_init_65 rfl rfl ?_
  refine mw_aload_n C 3 d_No_init_66 rfl rfl ?_
  refine mw_putIr C fo_No_46 hI.1 (fun _ => ⟨rfl, rfl⟩) d_No_init_67 (by decide) rfl (by decide) ?_
  refine mw_aload_n C 0 d_No_init_70 rfl rfl ?_
  refine mw_aload C d_No_init_71 rfl ?_
  refine mw_putIr C fo_No_50 hI.1 (fun _ => ⟨rfl, rfl⟩) d_No_init_73 (by decide) rfl (by decide) ?_
  refine mw_aload_n C 0 d_No_init_76 rfl rfl ?_
  refine mw_new C (ci := 1) [.inl 2, .inl 2, .inl 2, .inl 2, .inl 1] rfl t_Gr_ok wu_Gr wk_No_54 wz_Gr wi_Gr (by decide +kernel) rfl d_No_init_77 (by decide +kernel) rfl rfl (by decide) (by decide) (fun ad hy C => ?_)
  have hx := mw_hx hx hy (by decide)
  refine mw_dup C d_No_init_80 rfl ?_
  refine mw_aload_n C 3 d_No_init_81 rfl rfl ?_
  refine mw_runI C (kk := 0) (ix := [18, 1, 2, 3, 4, 5]) (fun k => [.inr (3, [.inl 0, .inl 0, .inr 1, .inr 6, .inl 2, .inr 8, .inr 11, .inr 13, .inr 15, .inr 17, .inl 1, .inl 1, .inl 0, .inl 0, .inl 0]), .inr (5, [.inr 2, .inr 3, .inr 4, .inr 5, .inl 0]), .inl (0, 73, .inl 0), .inl (0, 73, .inl 0), .inl (1, 73, .inl 1), .inl (0, 73, .inl 0), .inr (2, [.inl 0, .inr 7, .inl 0]), .inl (0, 2240, .inl 0), .inr (0, [.inr 9, .inr 10, .inl 1, .inl 0]), .inl (0, 48, .inl 0), .inl (0, 4, .inl 0), .inr (4, [.inr 12, .inl 0]), .inl (0, 12, .inl 0), .inr (6, [.inr 14]), .inl (0, 192, .inl 0), .inr (6, [.inr 16]), .inl (0, 192, .inl 0), .inl (0, 3, .inl 0), .inr (1, [.inr 1, .inr 19, .inr 20, .inr 21, .inl 1]), .inl (0, 48, .inl 0), .inl (1, 48, .inl 1), .inl (1, 48, .inl 1)].getD k (.inr (0, []))) 22 [18, 1, 2, 3, 4, 5, 19, 20, 21] (m_Gr_init l D cA _ rfl) (mw_ix_of (by decide +kernel)) (mw_ix_of (by decide +kernel)) (by decide +kernel) kb_No_56 wm_Gr_init rfl (fun _ _ _ _ h => h) (fun _ _ _ _ _ _ => trivial) d_No_init_82 rfl rfl (Nat.le_of_ble_eq_true rfl) rfl rfl ⟨by decide, by decide⟩ ⟨by decide, by decide⟩ rfl rfl (fun ad hy C S82 e82 => ?_)
  have hx := mw_hx hx hy (by decide)
  refine mw_putIr C fo_No_59 hI.1 (fun _ => ⟨rfl, rfl⟩) d_No_init_85 (by decide) rfl (by decide) ?_
  refine mw_shEq (sh' := sh_No1) (by decide +kernel) ?_
  refine mw_vretI C hR hx (by decide) d_No_init_88 (by decide) (by decide) ⟨⟨rfl, rfl, (congrFun hz2 10 : S.2 0 10 = 0), (congrFun hz2 11 : S.2 0 11 = 0), (congrFun hz 12 : S.1 0 12 = 0), (congrFun hz 13 : S.1 0 13 = 0), (congrFun hz 14 : S.1 0 14 = 0), e82.1, e82.2.1, e82.2.2.1, e82.2.2.2.1, e9.1, e9.2.1, e9.2.2.1, e9.2.2.2, e20.1, e20.2, e31, e42⟩, fun k h1 h2 => ?_⟩
  have h7 : k = 1 ∨ k = 2 ∨ k = 3 ∨ k = 4 ∨ k = 5 ∨ k = 6 ∨ k = 7 := by omega
  rcases h7 with rfl | rfl | rfl | rfl | rfl | rfl | rfl
  · exact e82.2.2.2.2 1 (by decide) (by decide)
  · exact e82.2.2.2.2 2 (by decide) (by decide)
  · exact e82.2.2.2.2 3 (by decide) (by decide)
  · exact e82.2.2.2.2 4 (by decide) (by decide)
  · exact e82.2.2.2.2 5 (by decide) (by decide)
  · exact ⟨rfl, rfl⟩
  · exact ⟨rfl, rfl⟩
