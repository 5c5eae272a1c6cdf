/** All that can be seen of an object without changing it, but what was refused and the place of a FAULT. */
final class State {
    private State() {
    }

    static String of(DayLaces x) {
        StringBuilder all = new StringBuilder();
        for (int what = 0; what <= 11; what++) {
            all.append(x.told(what)).append(' ');
        }
        for (int p = 0; p < x.told(0); p++) {
            all.append("| ");
            for (int what = 0; what <= 10; what++) {
                all.append(x.person(p, what)).append(' ');
            }
            for (int other = 0; other < x.told(0); other++) {
                all.append(x.hold(p, other, 0)).append(',').append(x.hold(p, other, 1)).append(' ');
            }
        }
        all.append("| ").append(x.fits(0)).append(' ').append(x.fits(1)).append(' ').append(x.look(0));
        // the LAW, also where there are no PERSONS
        for (int i = 0; i < 8; i++) {
            all.append(' ').append(x.would(i, 9 - i, 3 * i, i & 1, i >> 1 & 1, i >> 2 & 1, 40 - i, 100 * i));
        }
        for (int what = 0; what <= 2; what++) {
            all.append(' ').append(x.count(what));
        }
        return all.toString();
    }
}
