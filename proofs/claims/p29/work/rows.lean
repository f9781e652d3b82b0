section
theorem zq_fc : True := by
  have h := @FP.Core.i2d_fin
  trivial
end
