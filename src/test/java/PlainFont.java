import java.util.ArrayList;
import java.util.List;

/** The document once more, as plainly as can be and without any limit of the room: what FontDesk is held against. */
final class PlainFont {
    static final int LEFT = 1000;
    static final int RIGHT = 1001;

    private final byte[] file;
    private int lh, bc, ec, nw, nh, nd, ni, nl, nk, ne, np;
    private int infoAt, widthAt, heightAt, depthAt, italicAt, stepAt, kernAt, pieceAt, parameterAt;
    int size;

    /** A sign of the row, or a kern in it. */
    record Sign(int kind, int code) {
    }

    PlainFont(byte[] file) {
        this.file = file;
    }

    private int at(int i) {
        return file[i] & 255;
    }

    private int half(int i) {
        return at(2 * i) * 256 + at(2 * i + 1);
    }

    private int word(int i) {
        return at(4 * i) << 24 | at(4 * i + 1) << 16 | at(4 * i + 2) << 8 | at(4 * i + 3);
    }

    int fault(int stands) {
        return !halves() ? 1 : word(7) < 1048576 ? 2 : !infos() ? 3 : !fractions() ? 4 : !steps() ? 5
            : !pieces() ? 6 : !programsEnd(stands) ? 7 : 0;
    }

    private boolean halves() {
        if (file.length < 24) {
            return false;
        }
        for (int i = 0; i < 12; i++) {
            if (half(i) >= 32768) {
                return false;
            }
        }
        lh = half(1);
        bc = half(2);
        ec = half(3);
        nw = half(4);
        nh = half(5);
        nd = half(6);
        ni = half(7);
        nl = half(8);
        nk = half(9);
        ne = half(10);
        np = half(11);
        infoAt = 6 + lh;
        widthAt = infoAt + ec - bc + 1;
        heightAt = widthAt + nw;
        depthAt = heightAt + nh;
        italicAt = depthAt + nd;
        stepAt = italicAt + ni;
        kernAt = stepAt + nl;
        pieceAt = kernAt + nk;
        parameterAt = pieceAt + ne;
        return half(0) == parameterAt + np && file.length == 4 * half(0) && lh >= 2 && bc <= ec + 1 && ec <= 255
            && ne <= 256 && nw >= 1 && nh >= 1 && nd >= 1 && ni >= 1;
    }

    boolean there(int c) {
        return c >= bc && c <= ec && at(4 * (infoAt + c - bc)) != 0;
    }

    private int info(int c, int i) {
        return at(4 * (infoAt + c - bc) + i);
    }

    private boolean infos() {
        for (int c = bc; c <= ec; c++) {
            if (!there(c)) {
                continue;
            }
            int b = info(c, 1);
            int d = info(c, 3);
            if (info(c, 0) >= nw || b / 16 >= nh || b % 16 >= nd || info(c, 2) / 4 >= ni) {
                return false;
            }
            int tag = info(c, 2) % 4;
            if (tag == 1 && d >= nl || tag == 3 && d >= ne || tag == 2 && (!there(d) || comesBack(c))) {
                return false;
            }
        }
        return true;
    }

    private boolean comesBack(int c) {
        int at = c;
        for (int i = 0; i < 1000 && there(at) && info(at, 2) % 4 == 2; i++) {
            at = info(at, 3);
            if (at == c) {
                return true;
            }
        }
        return false;
    }

    private boolean fractions() {
        for (int i = widthAt; i < parameterAt + np; i++) {
            boolean first = i == widthAt || i == heightAt || i == depthAt || i == italicAt;
            if (first && word(i) != 0) {
                return false;
            }
            boolean looked = i < stepAt || i >= kernAt && i < pieceAt || i > parameterAt;
            if (looked && (word(i) < -(1 << 24) || word(i) >= 1 << 24)) {
                return false;
            }
        }
        return true;
    }

    private int step(int k, int i) {
        return at(4 * (stepAt + k) + i);
    }

    int boundary() {
        return nl > 0 && step(0, 0) == 255 ? step(0, 1) : -1;
    }

    private boolean steps() {
        for (int k = 0; k < nl; k++) {
            int s = step(k, 0);
            int n = step(k, 1);
            int o = step(k, 2);
            int r = step(k, 3);
            boolean good;
            if (s > 128) {
                good = 256 * o + r < nl;
            } else {
                good = (there(n) || n == boundary()) && (s == 128 || k + s + 1 < nl)
                    && (o < 128 ? there(r) && List.of(0, 1, 2, 3, 5, 6, 7, 11).contains(o)
                        : 256 * (o - 128) + r < nk);
            }
            if (!good) {
                return false;
            }
        }
        return true;
    }

    private boolean pieces() {
        for (int k = 4 * pieceAt; k < 4 * parameterAt; k++) {
            if (!there(at(k)) && (at(k) != 0 || k % 4 == 3)) {
                return false;
            }
        }
        return true;
    }

    private int done(int x, int y) {
        int k = -1;
        if (x == LEFT) {
            if (nl > 0 && step(nl - 1, 0) == 255) {
                k = 256 * step(nl - 1, 2) + step(nl - 1, 3);
            }
        } else if (info(x, 2) % 4 == 1) {
            k = info(x, 3);
            if (step(k, 0) > 128) {
                k = 256 * step(k, 2) + step(k, 3);
            }
        }
        int sought = y == RIGHT ? boundary() : y;
        while (k >= 0) {
            if (step(k, 0) > 128) {
                return -1;
            }
            if (step(k, 1) == sought) {
                return k;
            }
            k = step(k, 0) == 128 ? -1 : k + step(k, 0) + 1;
        }
        return -1;
    }

    /** A row with the machine in it, kerns beside it. */
    private final class Machine {
        final List<Sign> row = new ArrayList<>();
        int stand = 0;
        // The place of the y that is looked at, or of what came there.
        int mark = 1;
        int most = 0;
        long stands = 0;

        private int behind() {
            int next = stand + 1;
            while (next < row.size() && row.get(next).kind == 2) {
                next++;
            }
            return next;
        }

        boolean between() {
            return behind() < row.size();
        }

        void look() {
            stands++;
            int next = behind();
            int k = done(row.get(stand).code, row.get(next).code);
            if (k < 0) {
                stand = next;
                return;
            }
            int o = step(k, 2);
            int r = step(k, 3);
            if (o >= 128) {
                row.add(next, new Sign(2, scaled(word(kernAt + 256 * (o - 128) + r))));
                grown(next);
                stand = next + 1;
                return;
            }
            Sign sign = new Sign(1, r);
            if (o == 0) {
                row.remove(next);
                row.set(stand, sign);
                if (mark >= next) {
                    mark--;
                }
            } else if (o == 1 || o == 5) {
                row.set(stand, sign);
            } else if (o == 2 || o == 6) {
                row.set(next, sign);
            } else {
                row.add(next, sign);
                grown(next);
            }
            for (int go = o == 11 ? 2 : o >= 5 ? 1 : 0; go > 0; go--) {
                stand = behind();
            }
        }

        private void grown(int place) {
            if (mark >= place) {
                mark++;
            }
            most = Math.max(most, row.size());
        }
    }

    private boolean programsEnd(int stands) {
        for (int x = 0; x <= 256; x++) {
            for (int y = 0; y <= 256; y++) {
                if ((x == 256 || there(x)) && (y == 256 ? boundary() >= 0 : there(y))
                        && !ends(x == 256 ? LEFT : x, y == 256 ? RIGHT : y, stands)) {
                    return false;
                }
            }
        }
        return true;
    }

    private boolean ends(int x, int y, int stands) {
        Machine m = new Machine();
        m.row.add(new Sign(0, x));
        m.row.add(new Sign(0, y));
        while (m.stand < m.mark) {
            if (m.stands >= stands) {
                return false;
            }
            m.look();
        }
        return true;
    }

    int scaled(int fraction) {
        return (int) Math.floorDiv((long) fraction * size, 1048576L);
    }

    /** The items, or null if a limit is passed. */
    List<Sign> set(byte[] text) {
        Machine m = new Machine();
        m.row.add(new Sign(0, LEFT));
        for (byte b : text) {
            m.row.add(new Sign(0, b & 255));
        }
        m.row.add(new Sign(0, RIGHT));
        while (m.between()) {
            m.look();
            if (m.stands > 10000 || m.most > 1000) {
                return null;
            }
        }
        m.row.removeIf(s -> s.kind != 2 && s.code >= LEFT);
        return m.row;
    }

    int metric(int c, int what) {
        switch (what) {
            case 0:
                return scaled(word(widthAt + info(c, 0)));
            case 1:
                return scaled(word(heightAt + info(c, 1) / 16));
            case 2:
                return scaled(word(depthAt + info(c, 1) % 16));
            case 3:
                return scaled(word(italicAt + info(c, 2) / 4));
            case 4:
                return info(c, 2) % 4;
            default:
                return info(c, 2) % 4 == 0 ? 0 : info(c, 3);
        }
    }

    int parameter(int k) {
        return k > np ? 0 : k == 1 ? Math.floorDiv(word(parameterAt), 16) : scaled(word(parameterAt + k - 1));
    }

    int designSize() {
        return Math.floorDiv(word(7), 16);
    }
}
