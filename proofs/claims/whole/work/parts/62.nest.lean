/-- what the class's constructor needs beside the words -/
def nw_NK (U : State) : Prop := (nw_AO .byte U ∧ nw_AO .long U) ∧ va_Nw (.methodLinkNest R_NW 9 y_Row_init R_NW) U ∧ va_Nw (.methodLinkNest R_NW 21 y_WL_init R_NW) U ∧ va_Nw (.methodLinkNest R_NW 28 y_Res_init R_NW) U ∧ va_Nw (.methodLinkNest R_NW 35 y_Pat_init R_NW) U ∧ va_Nw (.methodLinkNest R_NW 49 y_Near_init R_NW) U
theorem nw_NK.st : nw_St nw_NK :=
  ⟨fun u U h k => ⟨⟨(nw_AO.st _).1 u U h k.1.1, (nw_AO.st _).1 u U h k.1.2⟩, k.2.1.same rfl h, k.2.2.1.same rfl h, k.2.2.2.1.same rfl h, k.2.2.2.2.1.same rfl h, k.2.2.2.2.2.same rfl h⟩,
   fun u U h k => ⟨⟨(nw_AO.st _).2 u U h k.1.1, (nw_AO.st _).2 u U h k.1.2⟩, va_Nw.warmM h k.2.1, va_Nw.warmM h k.2.2.1, va_Nw.warmM h k.2.2.2.1, va_Nw.warmM h k.2.2.2.2.1, va_Nw.warmM h k.2.2.2.2.2⟩⟩
