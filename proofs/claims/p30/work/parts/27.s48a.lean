/-! quarrel, count, added: the answers -/
theorem z_toldN {b : Int32} {T : v_Sf} (h : z_told 5 31 b (T 129)) : f_X12_toldNurses T = b := by
  unfold f_X12_toldNurses F_X12_toldNurses
  rw [show 5 - 0 = 5 from rfl]
  refine z_bits_ok (n := 5) (by decide) h (r_X12_toldNurses_4 T) (fun k x => by rw [r_X12_toldNurses_4]) (fun r k x hk => ?_)
  rw [r_X12_toldNurses_4, z_iin (by omega)]
section CA_quarrel
variable {L : Nat} {xs : Nat → Int32} {S : v_Sf} {R : v_Rf} {Q : Option Value → v_Sf → v_Rf → Prop}
end CA_quarrel
section CA_count
variable {L : Nat} {xs : Nat → Int32} {S : v_Sf} {R : v_Rf} {Q : Option Value → v_Sf → v_Rf → Prop}
end CA_count
section CA_added
variable {L : Nat} {xs : Nat → Int32} {S : v_Sf} {R : v_Rf} {Q : Option Value → v_Sf → v_Rf → Prop}
end CA_added
