/-! All that is shown by hand, together. -/
theorem handsC (hRem : RemP) (hW : SemC KC InvC ch_123) (hW2 : SemC KC InvC ch_123b) : HandsC KC InvC := ⟨handsB_KC invC_KC, hW, hW2, (sh_51 hRem), sh_295, (sh_75 invC_KC), sh_96, sh_95, sh_97, (sh_59 (sh_51 hRem)), sh_40, si_4, (si_6 invC_KC), (si_7 invC_KC), (si_8 invC_KC), (si_9 invC_KC), (si_10 invC_KC)⟩
