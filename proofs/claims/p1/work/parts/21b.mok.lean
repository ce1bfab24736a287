theorem mt_1 : Mok D_1 := kt_met (i := 161) (j := 128) rfl (by decide +kernel)
theorem mt_2 : Mok D_2 := kt_met (i := 515) (j := 128) rfl (by decide +kernel)
theorem mt_3 : Mok D_3 := kt_met (i := 500) (j := 128) rfl (by decide +kernel)
