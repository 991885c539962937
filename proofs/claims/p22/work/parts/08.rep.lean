/-! the array classes that the claim knows: of ints, of objects (cL stays as a name that says nothing here) -/
abbrev zTy (cI cO _cL : ClassId) : List (ClassId × FieldType) := [(cI, .int), (cO, .object "java/lang/Object")]
abbrev zKK (D : va_G) (cI cO cL : ClassId) (U : State) : Prop := va_K D vwCl (zTy cI cO cL) U
theorem zKK_mv (D : va_G) (cI cO cL : ClassId) : zMove (zKK D cI cO cL) := fun _ _ h _ k => va_K.moved h k
