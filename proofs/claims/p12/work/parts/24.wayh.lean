section WAY
end WAY
