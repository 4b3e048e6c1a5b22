section LAYH
end LAYH
