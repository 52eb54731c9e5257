/** Promises 9, 10, 12, 13: who goes where with LEAST, in sets with few unlike places, so that there are many ties. */
public final class LeastTest {
    private static final Check CHECK = new Check("LeastTest");
    private static long seed = 4711;

    public static void main(String[] args) {
        for (int dots = 2; dots <= 10; dots++) {
            for (int run = 0; run < (dots == 6 ? 10 : 40); run++) {
                compare(dots);
            }
        }
        CHECK.end();
    }

    private static int pick(int below) {
        seed = seed * 6364136223846793005L + 1442695040888963407L;
        return (int) Long.remainderUnsigned(seed >>> 33, below);
    }

    private static void compare(int dots) {
        DrillField field = new DrillField();
        PlainField plain = new PlainField();
        field.band(dots);
        plain.band(dots);
        for (int set = 0; set < 6; set++) {
            tellSet(field, plain);
        }
        int parts = 2 + pick(4);
        for (int part = 0; part < parts; part++) {
            int set = pick(6);
            boolean isLeast = pick(4) > 0;
            field.part(set, 8, 120, isLeast);
            plain.part(set, 8, 120, isLeast);
        }
        comparePlaces(field, plain, dots, parts);
        int changed = pick(parts);
        int set = pick(6);
        field.change(changed, set, 8, 120, true);
        plain.change(changed, set, 8, 120, true);
        comparePlaces(field, plain, dots, parts);
        CHECK.holds("agrees", field.agrees());
    }

    private static void tellSet(DrillField field, PlainField plain) {
        int x = 400 + 10 * pick(5);
        int y = 10 * pick(5);
        int toX = 400 + 10 * pick(5);
        int toY = 10 * pick(5);
        int columns = 1 + pick(4);
        switch (pick(3)) {
            case 0 -> {
                field.line(x, y, toX, toY);
                plain.line(x, y, toX, toY);
            }
            case 1 -> {
                field.block(x, y, columns, 10);
                plain.block(x, y, columns, 10);
            }
            default -> {
                field.wedge(x, y, 10);
                plain.wedge(x, y, 10);
            }
        }
    }

    private static void comparePlaces(DrillField field, PlainField plain, int dots, int parts) {
        for (int part = 0; part < parts; part++) {
            CHECK.due("walking of the part " + part, field.walking(part), plain.walking(part));
            for (int dot = 0; dot < dots; dot++) {
                CHECK.due("the place of " + dots + " dots' dot " + dot, field.place(part, dot), plain.place(part, dot));
            }
        }
    }
}
