/**
 * Long runs of calls on the class and on a plain model of the document beside it, all that both tell being
 * compared behind each call. The model pulls what is brought to a cell where the class pushes it, and keeps
 * numbers in rows where the class keeps objects, so that a slip in the one is not the other's too.
 */
public final class ModelTest {
    private static final int RUNS = 600;
    private static final int CALLS = 150;
    /** What a call answers that throws; no answer of a call is as low. */
    private static final int NO_SUCH = -1001, OUT_OF_RANGE = -1002, NOT_NOW = -1003;

    public static void main(String[] args) {
        for (int run = 1; run <= RUNS; run++) {
            if (!passes(run)) {
                break;
            }
        }
        Check.end("the model");
    }

    private static boolean passes(int run) {
        Check.Numbers numbers = new Check.Numbers(run);
        TesseraeRow row = new TesseraeRow();
        Model model = new Model();
        StringBuilder calls = new StringBuilder();
        int[] call = new int[6];
        for (int i = 0; i < CALLS; i++) {
            choose(numbers, model, call);
            calls.append(text(call)).append('\n');
            int got = answer(row, call);
            int want = model.answer(call);
            String gotState = Check.state(row) + found(row, model);
            String wantState = model.state() + model.found();
            if (got != want || !gotState.equals(wantState)) {
                System.out.print("run " + run + ":\n" + calls);
                Check.due("the last of these", got, want);
                Check.same("the last of these", gotState, wantState);
                return false;
            }
        }
        return true;
    }

    /** A call is its number by the document's order and its arguments; now and then one is out of range. */
    private static void choose(Check.Numbers numbers, Model model, int[] call) {
        int[] often = {0, 0, 1, 2, 2, 3, 3, 4, 4, 5, 6, 6, 6, 7, 7, 8, 8, 9, 10, 11, 11, 11, 12, 12, 12};
        call[0] = often[numbers.from(0, often.length - 1)];
        int slip = numbers.from(0, 9) == 0 ? 1 : 0;
        int lot = numbers.from(-slip, Math.max(model.lots, 1) - 1 + slip);
        int other = numbers.from(-slip, Math.max(model.lots, 1) - 1 + slip);
        int picture = numbers.from(-slip, Math.max(model.pictures, 1) - 1 + slip);
        int wide = picture >= 0 && picture < model.pictures ? model.width[picture] : 1;
        int high = picture >= 0 && picture < model.pictures ? model.height[picture] : 1;
        int x = numbers.from(-slip, wide - 1 + slip);
        int y = numbers.from(-slip, high - 1 + slip);
        int tone = slip == 0 ? numbers.from(60, 140) : numbers.from(-1, 256);
        int crew = numbers.from(-slip, 2 + slip);
        int material = numbers.from(-slip, 1 + slip);
        switch (call[0]) {
            case 0:
                int hundredths = slip == 0 ? numbers.from(4000, 16000) : numbers.from(-2000, 27000);
                if (numbers.from(0, 2) == 0) {
                    hundredths = numbers.from(3, 8) * 2000;
                }
                set(call, hundredths, numbers.from(1 - slip, slip == 0 ? 20 : 501), material, numbers.from(0, 3));
                break;
            case 1:
                set(call, lot, 0, 0, 0);
                break;
            case 2:
                set(call, numbers.from(1 - slip, 8 + slip), numbers.from(1 - slip, 8 + slip), tone, 0);
                break;
            case 3:
            case 4:
                set(call, picture, x, y, tone);
                break;
            case 7:
                set(call, picture, lot, other, 0);
                break;
            case 8:
                set(call, crew, numbers.from(0, 5) == 0 ? -1 - slip : picture, 0, 0);
                break;
            case 9:
                set(call, crew, numbers.from(1 - slip, 9 + slip), numbers.from(-slip, numbers.from(0, 9) + slip), 0);
                break;
            case 10:
                set(call, crew, material, 0, 0);
                break;
            case 11:
                set(call, crew, lot, 0, 0);
                break;
            case 12:
                set(call, slip == 0 ? numbers.from(1, 4) : numbers.from(-1, 102), 0, 0, 0);
                break;
            default:
                set(call, picture, 0, 0, 0);
        }
    }

    private static void set(int[] call, int first, int second, int third, int fourth) {
        call[1] = first;
        call[2] = second;
        call[3] = third;
        call[4] = fourth;
    }

    private static String text(int[] call) {
        String[] names = {"lot", "comes", "picture", "cell", "old", "fill", "design", "share", "send", "crew",
            "tray", "load", "pass"};
        int[] many = {4, 1, 3, 4, 4, 1, 1, 3, 2, 3, 2, 2, 1};
        StringBuilder text = new StringBuilder(names[call[0]]).append('(');
        for (int i = 1; i <= many[call[0]]; i++) {
            text.append(i == 1 ? "" : ", ").append(call[i]);
        }
        return text.append(')').toString();
    }

    private static int answer(TesseraeRow row, int[] call) {
        try {
            return called(row, call[0], call[1], call[2], call[3], call[4]);
        } catch (RuntimeException thrown) {
            Class<?> kind = thrown.getClass();
            return kind == IndexOutOfBoundsException.class ? NO_SUCH
                    : kind == IllegalArgumentException.class ? OUT_OF_RANGE
                    : kind == IllegalStateException.class ? NOT_NOW : -9999;
        }
    }

    private static int called(TesseraeRow row, int number, int first, int second, int third, int fourth) {
        switch (number) {
            case 0: return row.lot(first, second, third, fourth != 0);
            case 1: return row.comes(first);
            case 2: return row.picture(first, second, third);
            case 3: return row.cell(first, second, third, fourth);
            case 4: return row.old(first, second, third, fourth);
            case 5: return row.fill(first);
            case 6: return row.design(first);
            case 7: return row.share(first, second, third);
            case 8: return row.send(first, second);
            case 9: return row.crew(first, second, third);
            case 10: return row.tray(first, second);
            case 11: return row.load(first, second) ? 1 : 0;
            default: return row.pass(first);
        }
    }

    /** What is found anew: the aims and the edges. */
    private static String found(TesseraeRow row, Model model) {
        StringBuilder text = new StringBuilder();
        for (int p = 0; p < model.pictures; p++) {
            text.append("edge ").append(row.edge(p)).append(" aims");
            for (int i = 0; i < model.width[p] * model.height[p]; i++) {
                text.append(' ').append(row.aimAnew(p, i % model.width[p], i / model.width[p]));
            }
            text.append('\n');
        }
        return text.toString();
    }

    private static final class Model {
        int hour;
        int lots;
        int pictures;
        final float[] toneOf = new float[12];
        final int[] many = new int[12];
        final int[] materialOf = new int[12];
        final boolean[] there = new boolean[12];
        final int[] width = new int[5];
        final int[] height = new int[5];
        final int[][] kind = new int[5][64];
        final int[][] lotOf = new int[5][64];
        final int[][] wanted = new int[5][64];
        final float[][] aim = new float[5][64];
        final int[][] laidAt = new int[5][64];
        final int[][] dryFor = new int[5][64];
        /** Of each crew: picture, material, rate, dry, laid. */
        final int[][] crews = {{-1, 0, 1, 1, 0}, {-1, 0, 1, 1, 0}, {-1, 0, 1, 1, 0}};
        /** Of each crew a bit a lot. */
        final int[] trays = new int[3];

        int answer(int[] call) {
            int wrong = wrongOf(call[0], call[1], call[2], call[3], call[4]);
            return wrong != 0 ? wrong : done(call[0], call[1], call[2], call[3], call[4]);
        }

        private static boolean out(int value, int least, int most) {
            return value < least || value > most;
        }

        private boolean noCell(int p, int x, int y) {
            return out(p, 0, pictures - 1) || out(x, 0, width[p] - 1) || out(y, 0, height[p] - 1);
        }

        private int wrongOf(int number, int first, int second, int third, int fourth) {
            boolean noPicture = out(first, 0, pictures - 1);
            switch (number) {
                case 0:
                    return out(first, 0, 25500) || out(second, 1, 500) || out(third, 0, 1) ? OUT_OF_RANGE
                            : lots == 12 ? NOT_NOW : 0;
                case 1:
                    return out(first, 0, lots - 1) ? NO_SUCH : there[first] ? NOT_NOW : 0;
                case 2:
                    return out(first, 1, 8) || out(second, 1, 8) || out(third, 0, 255) ? OUT_OF_RANGE
                            : pictures == 5 ? NOT_NOW : 0;
                case 3:
                case 4:
                    if (noCell(first, second, third)) {
                        return NO_SUCH;
                    }
                    int is = kind[first][third * width[first] + second];
                    return out(fourth, 0, 255) ? OUT_OF_RANGE : is > 1 || number == 4 && is == 1 ? NOT_NOW : 0;
                case 7:
                    return noPicture || out(second, 0, lots - 1) || out(third, 0, lots - 1) ? NO_SUCH
                            : second == third ? OUT_OF_RANGE : 0;
                case 8:
                    return out(first, 0, 2) || out(second, -1, pictures - 1) ? NO_SUCH : 0;
                case 9:
                    return out(first, 0, 2) ? NO_SUCH : out(second, 1, 9) || out(third, 0, 9) ? OUT_OF_RANGE : 0;
                case 10:
                    return out(first, 0, 2) ? NO_SUCH : out(second, 0, 1) ? OUT_OF_RANGE : 0;
                case 11:
                    return out(first, 0, 2) || out(second, 0, lots - 1) ? NO_SUCH : 0;
                case 12:
                    return out(first, 1, 100) ? OUT_OF_RANGE : 0;
                default:
                    return noPicture ? NO_SUCH : 0;
            }
        }

        private int done(int number, int first, int second, int third, int fourth) {
            int before;
            switch (number) {
                case 0:
                    toneOf[lots] = (float) first / 100;
                    many[lots] = second;
                    materialOf[lots] = third;
                    there[lots] = fourth != 0;
                    return lots++;
                case 1:
                    there[first] = true;
                    return left(first);
                case 2:
                    width[pictures] = first;
                    height[pictures] = second;
                    java.util.Arrays.fill(lotOf[pictures], -1);
                    java.util.Arrays.fill(wanted[pictures], third);
                    return pictures++;
                case 3:
                    before = wanted[first][third * width[first] + second];
                    wanted[first][third * width[first] + second] = fourth;
                    return before;
                case 4:
                    wanted[first][third * width[first] + second] = fourth;
                    kind[first][third * width[first] + second] = 3;
                    return of(first, 3);
                case 5:
                    return fill(first);
                case 6:
                    return design(first);
                case 7:
                    return share(first, second, third);
                case 8:
                    before = crews[first][0];
                    crews[first][0] = second;
                    return before;
                case 9:
                    before = crews[first][2];
                    crews[first][2] = second;
                    crews[first][3] = third;
                    return before;
                case 10:
                    before = Integer.bitCount(trays[first]);
                    trays[first] = 0;
                    crews[first][1] = second;
                    return before;
                case 11:
                    return load(first, second);
                default:
                    return pass(first);
            }
        }

        private int cells(int p) {
            return width[p] * height[p];
        }

        private int of(int p, int what) {
            int count = 0;
            for (int i = 0; i < cells(p); i++) {
                count += kind[p][i] == what ? 1 : 0;
            }
            return count;
        }

        private int with(int lot, int what) {
            int count = 0;
            for (int p = 0; p < pictures; p++) {
                for (int i = 0; i < cells(p); i++) {
                    count += kind[p][i] == what && lotOf[p][i] == lot ? 1 : 0;
                }
            }
            return count;
        }

        private int left(int lot) {
            return many[lot] - with(lot, 1) - with(lot, 2);
        }

        private int fill(int p) {
            int[] round = new int[cells(p)];
            for (int i = 0; i < round.length; i++) {
                round[i] = kind[p][i] > 1 ? 0 : 999;
            }
            int all = 0;
            int more = 1;
            for (int now = 1; more > 0; now++) {
                more = 0;
                for (int i = 0; i < round.length; i++) {
                    int sum = 0;
                    int count = 0;
                    for (int j = 0; j < round.length; j++) {
                        boolean near = Math.abs(i % width[p] - j % width[p]) < 2
                                && Math.abs(i / width[p] - j / width[p]) < 2;
                        if (near && round[j] < now) {
                            sum += wanted[p][j];
                            count++;
                        }
                    }
                    if (round[i] == 999 && count > 0) {
                        round[i] = now;
                        wanted[p][i] = sum / count;
                        more++;
                    }
                }
                all += more;
            }
            return all;
        }

        private float lackOf(int p, int x, int y, float[] lacks) {
            return x < 0 || y < 0 || x >= width[p] ? 0f : lacks[y * width[p] + x];
        }

        private float pulled(int p, int i, float[] lacks) {
            int x = i % width[p];
            int y = i / width[p];
            float brought = 0f;
            brought += lackOf(p, x - 1, y - 1, lacks) * 0.0625f;
            brought += lackOf(p, x, y - 1, lacks) * 0.3125f;
            brought += lackOf(p, x + 1, y - 1, lacks) * 0.1875f;
            brought += lackOf(p, x - 1, y, lacks) * 0.4375f;
            return wanted[p][i] + brought;
        }

        private int design(int p) {
            for (int i = 0; i < cells(p); i++) {
                if (kind[p][i] == 1) {
                    kind[p][i] = 0;
                    lotOf[p][i] = -1;
                }
            }
            float[] lacks = new float[cells(p)];
            for (int i = 0; i < cells(p); i++) {
                aim[p][i] = pulled(p, i, lacks);
                for (int lot = 0; lot < lots && kind[p][i] < 2; lot++) {
                    boolean nearer = lotOf[p][i] < 0
                            || Math.abs(aim[p][i] - toneOf[lot]) < Math.abs(aim[p][i] - toneOf[lotOf[p][i]]);
                    if (there[lot] && left(lot) > 0 && nearer) {
                        kind[p][i] = 1;
                        lotOf[p][i] = lot;
                    }
                }
                lacks[i] = lotOf[p][i] < 0 ? 0f : aim[p][i] - toneOf[lotOf[p][i]];
            }
            return of(p, 1);
        }

        private int share(int p, int lot, int other) {
            int given = 0;
            for (int i = 0; i < cells(p); i++) {
                boolean odd = (i % width[p] + i / width[p]) % 2 != 0;
                if (odd && kind[p][i] == 1 && lotOf[p][i] == lot && there[other] && left(other) > 0) {
                    lotOf[p][i] = other;
                    given++;
                }
            }
            return given;
        }

        private int load(int crew, int lot) {
            if (materialOf[lot] == crews[crew][1] && Integer.bitCount(trays[crew] & ~(1 << lot)) < 4) {
                trays[crew] |= 1 << lot;
            }
            return trays[crew] >> lot & 1;
        }

        private int pass(int hours) {
            int before = hour;
            int laid = 0;
            while (hour < before + hours) {
                hour++;
                for (int[] crew : crews) {
                    for (int stone = 0; stone < crew[2] && crew[0] >= 0; stone++) {
                        laid += lays(crew, crew == crews[0] ? trays[0] : crew == crews[1] ? trays[1] : trays[2]);
                    }
                }
            }
            return laid;
        }

        private int lays(int[] crew, int tray) {
            int p = crew[0];
            int i = 0;
            while (i < cells(p) && kind[p][i] > 1) {
                i++;
            }
            if (i == cells(p) || kind[p][i] != 1 || (tray >> lotOf[p][i] & 1) == 0 || hour < dryAt(p, i / width[p])) {
                return 0;
            }
            kind[p][i] = 2;
            laidAt[p][i] = hour;
            dryFor[p][i] = crew[3];
            crew[4]++;
            return 1;
        }

        /** The hour from which a row can be laid, the one above being done. */
        private int dryAt(int p, int y) {
            int latest = -1;
            int dry = 0;
            for (int x = width[p] - 1; x >= 0 && y > 0; x--) {
                int i = (y - 1) * width[p] + x;
                if (kind[p][i] == 2 && laidAt[p][i] > latest) {
                    latest = laidAt[p][i];
                    dry = latest + dryFor[p][i];
                }
            }
            return dry;
        }

        String state() {
            StringBuilder text = new StringBuilder("hour " + hour + "\n");
            for (int lot = 0; lot < lots; lot++) {
                text.append("lot " + lot + " " + left(lot) + " " + with(lot, 1) + " " + with(lot, 2) + " "
                        + (there[lot] ? 1 : 0) + " " + Check.bits(toneOf[lot]) + "\n");
            }
            for (int c = 0; c < 3; c++) {
                text.append("crew " + c + " " + crews[c][0] + " " + crews[c][1] + " " + Integer.bitCount(trays[c])
                        + " " + crews[c][4] + "\n");
            }
            for (int p = 0; p < pictures; p++) {
                text.append("picture " + p + "\n");
                for (int i = 0; i < cells(p); i++) {
                    text.append(" " + kind[p][i] + "," + lotOf[p][i] + "," + wanted[p][i] + ","
                            + Check.bits(aim[p][i]) + "," + (kind[p][i] == 2 ? laidAt[p][i] : -1));
                    text.append(i % width[p] == width[p] - 1 ? "\n" : "");
                }
            }
            return text.toString();
        }

        String found() {
            StringBuilder text = new StringBuilder();
            for (int p = 0; p < pictures; p++) {
                text.append("edge " + Check.bits(edge(p)) + " aims");
                float[] lacks = new float[cells(p)];
                for (int i = 0; i < cells(p); i++) {
                    float anew = pulled(p, i, lacks);
                    lacks[i] = lotOf[p][i] < 0 ? 0f : anew - toneOf[lotOf[p][i]];
                    text.append(" " + Check.bits(anew));
                }
                text.append("\n");
            }
            return text.toString();
        }

        private float edge(int p) {
            float greatest = 0f;
            for (int i = 0; i < cells(p); i++) {
                for (int j = i + 1; j < cells(p); j++) {
                    boolean beside = j == i + width[p] || j == i + 1 && j % width[p] != 0;
                    if (beside && kind[p][i] != 0 && kind[p][j] != 0) {
                        float stones = stone(p, i) - stone(p, j);
                        float wants = wanted[p][i] - wanted[p][j];
                        greatest = Math.max(greatest, Math.abs(stones - wants));
                    }
                }
            }
            return greatest;
        }

        private float stone(int p, int i) {
            return kind[p][i] == 3 ? wanted[p][i] : toneOf[lotOf[p][i]];
        }
    }
}
