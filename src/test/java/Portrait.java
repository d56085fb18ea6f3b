/** All that can be asked of an object, as one text: two objects that are alike have the same. */
final class Portrait {
    private Portrait() {
    }

    /** What can be asked without changing anything. */
    static String of(MoonReapers x) {
        StringBuilder out = new StringBuilder();
        for (int what = 0; what <= 6; what++) {
            out.append(" rule ").append(x.rule(what));
        }
        for (int i = 0; i < x.rule(3); i++) {
            for (int what = 0; what <= 3; what++) {
                out.append(" strip ").append(x.strip(i, what));
            }
        }
        for (int r = 0; r < x.rule(4); r++) {
            for (int what = 0; what <= 4; what++) {
                out.append(" reaper ").append(x.reaper(r, what));
            }
            out.append(" fits ").append(x.fits(10 + r));
        }
        for (int o = 0; o <= 3; o++) {
            out.append(" harvest ").append(x.harvest(o));
        }
        for (int n = 0; n <= 6; n += 2) {
            out.append(" hare ").append(x.hare(n));
        }
        for (int what = 3; what <= 7; what++) {
            out.append(" count ").append(x.count(what));
        }
        return out.append(" runs ").append(x.runs()).append(" fits ").append(x.fits(0)).append(" fault ").append(x.fault())
                .append(" torn ").append(x.torn()).toString();
    }

    /** Also what is found only by changing the object: what the SHEETS, the IMAGES and THE TAPE hold. */
    static String whole(MoonReapers x) {
        StringBuilder out = new StringBuilder(of(x));
        for (int k = 0; k <= 3; k++) {
            for (int lane = 0; lane <= 2; lane++) {
                out.append(" sheet ").append(x.read(k, lane, 0, 2)).append(' ').append(x.torn());
                for (int r = 0; r < x.rule(4); r++) {
                    out.append(' ').append(x.reaper(r, 3));
                }
            }
        }
        for (int k = 0; k <= 1; k++) {
            out.append("\nimage ").append(x.back(k)).append(of(x));
        }
        return out.append("\ntape ").append(x.text()).append(of(x)).toString();
    }
}
