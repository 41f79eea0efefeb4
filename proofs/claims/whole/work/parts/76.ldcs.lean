/-! a text constant fetched -/
section VLS
variable {g : xG} {B : BT} {k n : Nat} {Q : State → Prop} {sz pc : Nat} {ls : List (Option Value)} {st : List Value} {cc : ByteArray} {nL : Nat} {own : String} {ret : Option FieldType} {d mc ms : Nat} {h : xH}
theorem V.ldcS (hB : Bd g B cc nL own ret d mc ms) {index q : Nat} {tx : String} (hZ : vk_R own index tx q g.1) (hd : decode cc pc = .ok (.ldc index, 2)) (kk : V g B k n Q h sz (pc + 2) ls (.ref q :: st)) : V g B k n Q h sz pc ls (st) := by
  obtain ⟨p, l, e, R, s, m, args, below, meth, c⟩ := B
  obtain ⟨hx, hb, hml, hown, hr, hlk, hG, hW, hR, hfl⟩ := hB
  intro H locs A hz hl0
  exact va_ldcS hx hb hown (vk_R.warm hW hZ) hd (kk H locs A hz hl0)
end VLS
