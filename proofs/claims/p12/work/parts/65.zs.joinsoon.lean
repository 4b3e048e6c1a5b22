section ST25
end ST25
