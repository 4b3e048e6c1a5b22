section CNT
end CNT
