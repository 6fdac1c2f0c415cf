def cw_tab (t : Nat) : vw_C := match t with
  | 1 => (RX0, TX0, 11)
  | 2 => (RX1, TX1, 4)
  | 3 => (RX2, TX2, 5)
  | 4 => (RX3, TX3, 5)
  | 5 => (RX4, TX4, 8)
  | 6 => (RX5, TX5, 3)
  | 7 => (RX6, TX6, 11)
  | 8 => (RX7, TX7, 11)
  | 9 => (RX8, TX8, 5)
  | 10 => (RX9, TX9, 5)
  | 11 => (RX10, TX10, 2)
  | 12 => (RX11, TX11, 10)
  | 13 => (RJx4a65c, TJx4a65c, 3)
  | _ => (RX0, TX0, 0)
def cw_ty (t : Nat) : Nat → FieldType := match t with
  | 1 => tyX0
  | 2 => tyX1
  | 3 => tyX2
  | 4 => tyX3
  | 5 => tyX4
  | 6 => tyX5
  | 7 => tyX6
  | 8 => tyX7
  | 9 => tyX8
  | 10 => tyX9
  | 11 => tyX10
  | 12 => tyX11
  | 13 => tyJx4a65c
  | _ => fun _ => .int
def cw_xw : List Cond := (vx_at0 RX11 160 "java/lang/IllegalStateException" ["java/lang/RuntimeException", "java/lang/Exception"]).filter (fun w => !goodWord w) ++ (vx_at0 RX11 76 "java/lang/IllegalArgumentException" ["java/lang/RuntimeException", "java/lang/Exception"]).filter (fun w => !goodWord w) ++ (vx_at0 RX11 83 "java/util/NoSuchElementException" ["java/lang/RuntimeException", "java/lang/Exception"]).filter (fun w => !goodWord w) ++ (vx_at0 RX2 84 "java/lang/IllegalStateException" ["java/lang/RuntimeException", "java/lang/Exception"]).filter (fun w => !goodWord w) ++ (vx_at0 RX4 94 "java/lang/IllegalStateException" ["java/lang/RuntimeException", "java/lang/Exception"]).filter (fun w => !goodWord w) ++ (vx_at0 RX7 115 "java/lang/IllegalStateException" ["java/lang/RuntimeException", "java/lang/Exception"]).filter (fun w => !goodWord w)
theorem cw_xw_cd : cw_xw.all (fun w => match w with
  | .castable .. => true
  | .declares _ => true
  | _ => false) = true := by decide +kernel
