/** "REFUSALS .. answer, the first that fits: -1 an unknown number, -2 outside a range", where more than one answer fits. */
final class FirstRefusalTest {
    private static final Due DUE = new Due("the first refusal that fits");

    public static void main(String[] args) {
        wheelNumberBeforeSpeed();
        boundNumberBeforeValue();
        slipNumberBeforeReference();
        stepBothOutside();
        yawBothOutside();
        yawOutsideBeforeNear();
        yawOutsideBeforeLost();
        wishOutsideBeforeItsLines();
        wishOutsideThoughItsLinesFit();
        DUE.end();
    }

    private static void wheelNumberBeforeSpeed() {
        DUE.by("-1 an unknown number before -2 outside a range: wheel");
        for (int wheels = 2; wheels <= 8; wheels++) {
            GearBrake car = new GearBrake(wheels);
            for (int w : new Range(1, wheels).outsideInts()) {
                for (long speed : new Range(0, 1000).outside()) {
                    DUE.is("wheel(" + w + ", " + speed + ")", new GearBrake(wheels).wheel(w, speed), -1);
                }
            }
            DUE.is("wheel(1, 1001)", car.wheel(1, 1001), -2);
        }
    }

    private static void boundNumberBeforeValue() {
        DUE.by("-1 an unknown number before -2 outside a range: bound");
        for (int wheels = 2; wheels <= 8; wheels++) {
            GearBrake car = new GearBrake(wheels);
            for (int w : new Range(1, wheels).outsideInts()) {
                for (long v : new Range(0, 200).outside()) {
                    DUE.is("bound(" + w + ", " + v + ")", new GearBrake(wheels).bound(w, v), -1);
                }
            }
            DUE.is("bound(1, 201)", car.bound(1, 201), -2);
        }
    }

    private static void slipNumberBeforeReference() {
        DUE.by("0 if there is no wheel; otherwise ArithmeticException: both fit");
        for (int wheels = 2; wheels <= 8; wheels++) {
            GearBrake car = new GearBrake(wheels);
            DUE.is("slip(0, 0)", car.slip(0, 0), 0);
            DUE.is("slip(" + (wheels + 1) + ", 1)", car.slip(wheels + 1, 1), 0);
            DUE.slipThrows(car, wheels, 1);
            DUE.slipThrows(car, 1, 0);
        }
    }

    private static void stepBothOutside() {
        DUE.by("-2 the PEDAL or the SLOPE is none: both");
        GearBrake car = Cars.braking(2);
        for (long pedal : new long[] {-1, 101, Long.MIN_VALUE, Long.MAX_VALUE}) {
            for (long slope : new long[] {-31, 31, Long.MIN_VALUE, Long.MAX_VALUE}) {
                DUE.is("step(" + pedal + ", " + slope + ")", car.step(pedal, slope), -2);
            }
        }
    }

    private static void yawBothOutside() {
        DUE.by("-2 one of them is below -1000 or above 1000: both");
        GearBrake car = Cars.braking(2);
        for (long seen : new long[] {-1001, 1001, Long.MIN_VALUE, Long.MAX_VALUE}) {
            for (long wished : new long[] {-1001, 1001, Long.MIN_VALUE, Long.MAX_VALUE}) {
                DUE.is("yaw(" + seen + ", " + wished + ")", car.yaw(seen, wished), -2);
            }
        }
    }

    private static void yawOutsideBeforeNear() {
        DUE.by("-2 one of them is below -1000 or above 1000: not more than 20 apart");
        GearBrake car = Cars.braking(2);
        DUE.is("yaw(1001, 1000)", car.yaw(1001, 1000), -2);
        DUE.is("yaw(1000, 1001)", car.yaw(1000, 1001), -2);
        DUE.is("yaw(-1001, -1000)", car.yaw(-1001, -1000), -2);
        DUE.is("yaw(-1000, -1001)", car.yaw(-1000, -1001), -2);
        DUE.is("yaw(1001, 1001)", car.yaw(1001, 1001), -2);
        DUE.is("yaw(1000, 1000)", car.yaw(1000, 1000), 0);
    }

    private static void yawOutsideBeforeLost() {
        DUE.by("-2 one of them is below -1000 or above 1000: a wheel is LOST");
        for (int w = 1; w <= 3; w++) {
            GearBrake car = Cars.braking(3);
            car.lost(w, true);
            DUE.is("yaw(1001, 0)", car.yaw(1001, 0), -2);
            DUE.is("yaw(0, 1001)", car.yaw(0, 1001), -2);
            DUE.is("yaw(-1001, 0)", car.yaw(-1001, 0), -2);
            DUE.is("yaw(0, -1001)", car.yaw(0, -1001), -2);
            DUE.is("yaw(1000, 0)", car.yaw(1000, 0), 0);
        }
    }

    private static void wishOutsideBeforeItsLines() {
        DUE.by("wish: -2 there is no such GEAR before 0 if not");
        GearBrake car = Cars.withReference(1000);
        for (int gear : new Range(1, 6).outsideInts()) {
            DUE.is("wish(" + gear + ") at 1000", car.wish(gear), -2);
        }
        GearBrake fresh = new GearBrake(2);
        DUE.is("wish(7) at 0", fresh.wish(7), -2);
        DUE.is("wish(6) at 0", fresh.wish(6), 0);
    }

    /** Numbers outside whose lines, reckoned on or wrapped around, would let the reference in. */
    private static void wishOutsideThoughItsLinesFit() {
        DUE.by("wish: -2 there is no such GEAR before 1");
        DUE.is("wish(0) at 0", Cars.withReference(0).wish(0), -2);
        DUE.is("wish(0) at 30", Cars.withReference(30).wish(0), -2);
        DUE.is("wish(-1) at 10", Cars.withReference(10).wish(-1), -2);
        DUE.is("wish(7) at 120", Cars.withReference(120).wish(7), -2);
        DUE.is("wish(7) at 170", Cars.withReference(170).wish(7), -2);
        DUE.is("wish(8) at 150", Cars.withReference(150).wish(8), -2);
        DUE.is("wish(50) at 1000", Cars.withReference(1000).wish(50), -2);
        DUE.is("wish(-2147483648) at 0", Cars.withReference(0).wish(Integer.MIN_VALUE), -2);
        DUE.is("wish(1073741826) at 40", Cars.withReference(40).wish((1 << 30) + 2), -2);
    }
}
