/-! the law's helpers: calls that are caught -/
def zCat (U : State) : Prop := va_Nc "java/lang/IllegalArgumentException" "java/lang/IndexOutOfBoundsException" U ∧ va_Nc "java/lang/IllegalStateException" "java/lang/IndexOutOfBoundsException" U ∧ va_Nc "java/lang/IllegalStateException" "java/lang/IllegalArgumentException" U
theorem zCat.moved {u U : State} (hvm : u.vm.Alike U.vm) (h : zCat u) : zCat U := ⟨va_Nc.moved hvm h.1, va_Nc.moved hvm h.2.1, va_Nc.moved hvm h.2.2⟩
def zPL (D : va_G) (av : List Value) (sz : Nat) (ws : va_W) (tys : List (ClassId × FieldType)) (ad : Nat → Nat) : Array Value → State → Prop := va_Pc av (fun U => U.heap.size = sz ∧ va_P D vwCl ws U.heap ∧ va_K D vwCl tys U ∧ va_D (fun _ => True) ws ∧ zEn (va_A ws sz) ad U U.heap ∧ zCat U)
theorem zPL_blind {D : va_G} {av : List Value} {sz : Nat} {ws : va_W} {tys : List (ClassId × FieldType)} {ad : Nat → Nat} : FrameBlind (zPL D av sz ws tys ad) := fun a U g mk q => by
  obtain ⟨q0, q1, qP, qK, qD, qE, qC⟩ := q
  exact ⟨q0, q1, qP, va_K.moved (u := U) (U := U.calling g mk a) (Vm.Alike.refl U.vm) qK, qD, qE.moved (u := U) (U := U.calling g mk a) (Vm.Alike.refl U.vm) (fun k t b h => vk_R.same (u := U) (U := U.calling g mk a) rfl h) (fun _ _ _ => rfl) (fun _ h => h), qC.moved (u := U) (U := U.calling g mk a) (Vm.Alike.refl U.vm)⟩
def zNx : String → State → State → Prop := fun _ _ _ => False
